theorem wp_X1_giveTo_0 {X : e_X} {d gn : Nat} {o : e_O} (M : e_M) (p1 : Int) (hmo : e_mn (557, gn, e_RF, M) o.2) (h : (∃ N1 : e_M, e_E X d YX1_fillBest [.inr (.inr 50)] (557, gn, e_RF, M) (.inl none, (557, gn, e_RF, N1)) ∧ e_G X (d + 1) YX1_giveTo 8 [some (.inr (.inr 50)), some (.inl p1), some (.inl p1), some (.inl 0)] [] (557, gn, e_RF, N1) o)) : e_G X (d + 1) YX1_giveTo 0 [some (.inr (.inr 50)), some (.inl p1), none, none] [] (557, gn, e_RF, M) o := by
  refine e_r_aload_n (pc' := 1) (by decide) dX1_giveTo_0 rfl rfl rfl ?_
  obtain ⟨N1, he2, h⟩ := h
  refine e_r_callV (a := 50) (av := []) (st := []) mqYX1_fillBest ml_RX1_22 cl_1 rfl (Nat.le_of_ble_eq_true rfl) (by simp [e_cat]) rfl rfl rfl dX1_giveTo_1 (pc' := 4) rfl he2 ⟨Nat.le_refl _, Nat.le_refl _⟩ hmo ?_
  refine e_r_iload_n (pc' := 5) dX1_giveTo_4 rfl rfl rfl ?_
  refine e_r_istore_n (pc' := 6) (loc' := [some (.inr (.inr 50)), some (.inl p1), some (.inl p1), none]) dX1_giveTo_5 rfl rfl rfl rfl rfl ?_
  refine e_r_iconst (pc' := 7) dX1_giveTo_6 rfl (by decide) ?_
  refine e_r_istore_n (pc' := 8) (loc' := [some (.inr (.inr 50)), some (.inl p1), some (.inl p1), some (.inl 0)]) dX1_giveTo_7 rfl rfl rfl rfl rfl ?_
  exact h
theorem wp_X1_giveTo_8 {X : e_X} {d gn : Nat} {o : e_O} (M : e_M) (p1 v2 v3 : Int) (hmo : e_mn (557, gn, e_RF, M) o.2) (h : (((M 4 1) ≤ v3 → ((0 ≤ p1 ∧ p1 < 448) ∧ (o = (.inl (some (.inl (M 51 p1.toNat))), (557, gn, e_RF, M))))) ∧ (¬ ((M 4 1) ≤ v3) → (∃ (r5 : Int) (N4 : e_M), e_E X d YX1_firstGiver [.inr (.inr 50), .inl v3, .inl v2] (557, gn, e_RF, M) (.inl (some (.inl r5)), (557, gn, e_RF, N4)) ∧ ((0 ≤ v3 ∧ v3 < 6) ∧ ((0 ≤ v3 ∧ v3 < 6) ∧ ((((e_up N4 52 v3.toNat r5) 52 v3.toNat) = (-1) → e_G X (d + 1) YX1_giveTo 8 [some (.inr (.inr 50)), some (.inl p1), some (.inl v2), some (.inl (e_w (v3 + 1)))] [] (557, gn, e_RF, (e_up N4 52 v3.toNat r5)) o) ∧ (¬ (((e_up N4 52 v3.toNat r5) 52 v3.toNat) = (-1)) → ((0 ≤ v3 ∧ v3 < 6) ∧ e_G X (d + 1) YX1_giveTo 8 [some (.inr (.inr 50)), some (.inl p1), some (.inl (e_and v2 (e_xor (e_shl 1 ((e_up N4 52 v3.toNat r5) 52 v3.toNat)) (-1)))), some (.inl (e_w (v3 + 1)))] [] (557, gn, e_RF, (e_up N4 52 v3.toNat r5)) o))))))))) : e_G X (d + 1) YX1_giveTo 8 [some (.inr (.inr 50)), some (.inl p1), some (.inl v2), some (.inl v3)] [] (557, gn, e_RF, M) o := by
  refine e_r_iload_n (pc' := 9) dX1_giveTo_8 rfl rfl rfl ?_
  refine e_r_aload_n (pc' := 10) (by decide) dX1_giveTo_9 rfl rfl rfl ?_
  refine e_r_getr (k := 0) (q := 4) (pc' := 13) cl_1 rfl (Nat.le_of_ble_eq_true rfl) rfl rfl fl_RX1_18 rfl (Nat.le_of_ble_eq_true rfl) dX1_giveTo_10 rfl ?_
  refine e_r_geti (k := 1) (pc' := 16) cl_8 rfl (Nat.le_of_ble_eq_true rfl) rfl rfl fl_RX1_25 dX1_giveTo_13 rfl ?_
  obtain ⟨ht1, hf2⟩ := h
  refine e_r_icmp_ge (tgt := 60) (pc' := 19) dX1_giveTo_16 rfl rfl (fun c => ?_) (fun c => ?_)
  · have h := ht1 c
    refine e_r_aload_n (pc' := 61) (by decide) dX1_giveTo_60 rfl rfl rfl ?_
    refine e_r_getr (k := 1) (q := 51) (pc' := 64) cl_1 rfl (Nat.le_of_ble_eq_true rfl) rfl rfl fl_RX1_11 rfl (Nat.le_of_ble_eq_true rfl) dX1_giveTo_61 rfl ?_
    refine e_r_iload_n (pc' := 65) dX1_giveTo_64 rfl rfl rfl ?_
    obtain ⟨hb3, h⟩ := h
    refine e_r_iald (j9 := p1.toNat) (pc' := 66) rfl (Nat.le_of_ble_eq_true rfl) hb3.1 hb3.2 rfl dX1_giveTo_65 rfl ?_
    exact e_r_iret (ty := .int) rfl (e_nI _) dX1_giveTo_66 h
  · have h := hf2 c
    refine e_r_aload_n (pc' := 20) (by decide) dX1_giveTo_19 rfl rfl rfl ?_
    refine e_r_getr (k := 2) (q := 52) (pc' := 23) cl_1 rfl (Nat.le_of_ble_eq_true rfl) rfl rfl fl_RX1_15 rfl (Nat.le_of_ble_eq_true rfl) dX1_giveTo_20 rfl ?_
    refine e_r_iload_n (pc' := 24) dX1_giveTo_23 rfl rfl rfl ?_
    refine e_r_aload_n (pc' := 25) (by decide) dX1_giveTo_24 rfl rfl rfl ?_
    refine e_r_iload_n (pc' := 26) dX1_giveTo_25 rfl rfl rfl ?_
    refine e_r_iload_n (pc' := 27) dX1_giveTo_26 rfl rfl rfl ?_
    obtain ⟨r5, N4, he6, h⟩ := h
    refine e_r_callV (a := 50) (av := [.inl v3, .inl v2]) (st := [.inl v3, .inr (.inr 52)]) mqYX1_firstGiver ml_RX1_31 cl_1 rfl (Nat.le_of_ble_eq_true rfl) (by simp [e_cat]) rfl rfl rfl dX1_giveTo_27 (pc' := 30) rfl he6 ⟨Nat.le_refl _, Nat.le_refl _⟩ hmo ?_
    obtain ⟨hb7, h⟩ := h
    refine e_r_iast (j9 := v3.toNat) (pc' := 31) rfl (Nat.le_of_ble_eq_true rfl) hb7.1 hb7.2 rfl dX1_giveTo_30 rfl ?_
    refine e_r_aload_n (pc' := 32) (by decide) dX1_giveTo_31 rfl rfl rfl ?_
    refine e_r_getr (k := 2) (q := 52) (pc' := 35) cl_1 rfl (Nat.le_of_ble_eq_true rfl) rfl rfl fl_RX1_15 rfl (Nat.le_of_ble_eq_true rfl) dX1_giveTo_32 rfl ?_
    refine e_r_iload_n (pc' := 36) dX1_giveTo_35 rfl rfl rfl ?_
    obtain ⟨hb8, h⟩ := h
    refine e_r_iald (j9 := v3.toNat) (pc' := 37) rfl (Nat.le_of_ble_eq_true rfl) hb8.1 hb8.2 rfl dX1_giveTo_36 rfl ?_
    refine e_r_iconst (pc' := 38) dX1_giveTo_37 rfl (by decide) ?_
    obtain ⟨ht9, hf10⟩ := h
    refine e_r_icmp_eq (tgt := 54) (pc' := 41) dX1_giveTo_38 rfl rfl (fun c => ?_) (fun c => ?_)
    · have h := ht9 c
      refine e_r_iinc (pc' := 57) (loc' := [some (.inr (.inr 50)), some (.inl p1), some (.inl v2), some (.inl (e_w (v3 + 1)))]) dX1_giveTo_54 rfl rfl rfl rfl rfl ?_
      refine e_r_goto (pc' := 8) dX1_giveTo_57 rfl ?_
      exact h
    · have h := hf10 c
      refine e_r_iload_n (pc' := 42) dX1_giveTo_41 rfl rfl rfl ?_
      refine e_r_iconst (pc' := 43) dX1_giveTo_42 rfl (by decide) ?_
      refine e_r_aload_n (pc' := 44) (by decide) dX1_giveTo_43 rfl rfl rfl ?_
      refine e_r_getr (k := 2) (q := 52) (pc' := 47) cl_1 rfl (Nat.le_of_ble_eq_true rfl) rfl rfl fl_RX1_15 rfl (Nat.le_of_ble_eq_true rfl) dX1_giveTo_44 rfl ?_
      refine e_r_iload_n (pc' := 48) dX1_giveTo_47 rfl rfl rfl ?_
      obtain ⟨hb11, h⟩ := h
      refine e_r_iald (j9 := v3.toNat) (pc' := 49) rfl (Nat.le_of_ble_eq_true rfl) hb11.1 hb11.2 rfl dX1_giveTo_48 rfl ?_
      refine e_r_ishl (pc' := 50) dX1_giveTo_49 rfl ?_
      refine e_r_iconst (pc' := 51) dX1_giveTo_50 rfl (by decide) ?_
      refine e_r_ixor (pc' := 52) dX1_giveTo_51 rfl ?_
      refine e_r_iand (pc' := 53) dX1_giveTo_52 rfl ?_
      refine e_r_istore_n (pc' := 54) (loc' := [some (.inr (.inr 50)), some (.inl p1), some (.inl (e_and v2 (e_xor (e_shl 1 ((e_up N4 52 v3.toNat r5) 52 v3.toNat)) (-1)))), some (.inl v3)]) dX1_giveTo_53 rfl rfl rfl rfl rfl ?_
      refine e_r_iinc (pc' := 57) (loc' := [some (.inr (.inr 50)), some (.inl p1), some (.inl (e_and v2 (e_xor (e_shl 1 ((e_up N4 52 v3.toNat r5) 52 v3.toNat)) (-1)))), some (.inl (e_w (v3 + 1)))]) dX1_giveTo_54 rfl rfl rfl rfl rfl ?_
      refine e_r_goto (pc' := 8) dX1_giveTo_57 rfl ?_
      exact h
theorem wp_X1_fillBest_0 {X : e_X} {d gn : Nat} {o : e_O} (M : e_M) (hmo : e_mn (557, gn, e_RF, M) o.2) (h : (∃ (r2 : Int) (N1 : e_M), e_E X d YX10_bitsBelow [.inl (M 4 0)] (557, gn, e_RF, M) (.inl (some (.inl r2)), (557, gn, e_RF, N1)) ∧ e_G X (d + 1) YX1_fillBest 13 [some (.inr (.inr 50)), some (.inl r2), some (.inl 0), none, none, none] [] (557, gn, e_RF, N1) o)) : e_G X (d + 1) YX1_fillBest 0 [some (.inr (.inr 50)), none, none, none, none, none] [] (557, gn, e_RF, M) o := by
  refine e_r_aload_n (pc' := 1) (by decide) dX1_fillBest_0 rfl rfl rfl ?_
  refine e_r_getr (k := 0) (q := 4) (pc' := 4) cl_1 rfl (Nat.le_of_ble_eq_true rfl) rfl rfl fl_RX1_18 rfl (Nat.le_of_ble_eq_true rfl) dX1_fillBest_1 rfl ?_
  refine e_r_geti (k := 0) (pc' := 7) cl_8 rfl (Nat.le_of_ble_eq_true rfl) rfl rfl fl_RX1_35 dX1_fillBest_4 rfl ?_
  obtain ⟨r2, N1, he3, h⟩ := h
  refine e_r_callSN (av := [.inl (M 4 0)]) (st := []) mqYX10_bitsBelow nl_RX1_38 (by simp [e_cat]) rfl rfl rfl dX1_fillBest_7 (pc' := 10) rfl he3 ⟨Nat.le_refl _, Nat.le_refl _⟩ hmo ?_
  refine e_r_istore_n (pc' := 11) (loc' := [some (.inr (.inr 50)), some (.inl r2), none, none, none, none]) dX1_fillBest_10 rfl rfl rfl rfl rfl ?_
  refine e_r_iconst (pc' := 12) dX1_fillBest_11 rfl (by decide) ?_
  refine e_r_istore_n (pc' := 13) (loc' := [some (.inr (.inr 50)), some (.inl r2), some (.inl 0), none, none, none]) dX1_fillBest_12 rfl rfl rfl rfl rfl ?_
  exact h
theorem wp_X1_fillBest_13 {X : e_X} {d gn : Nat} {o : e_O} (M : e_M) (v1 v2 : Int) (h : ((v1 < v2 → e_G X (d + 1) YX1_fillBest 52 [some (.inr (.inr 50)), some (.inl v1), some (.inl (e_w ((M 4 1) - 1))), none, none, none] [] (557, gn, e_RF, M) o) ∧ (¬ (v1 < v2) → ((0 ≤ (e_w ((e_w ((M 4 1) * 64)) + v2)) ∧ (e_w ((e_w ((M 4 1) * 64)) + v2)) < 448) ∧ e_G X (d + 1) YX1_fillBest 13 [some (.inr (.inr 50)), some (.inl v1), some (.inl (e_w (v2 + 1))), none, none, none] [] (557, gn, e_RF, (e_up M 51 (e_w ((e_w ((M 4 1) * 64)) + v2)).toNat 0)) o)))) : e_G X (d + 1) YX1_fillBest 13 [some (.inr (.inr 50)), some (.inl v1), some (.inl v2), none, none, none] [] (557, gn, e_RF, M) o := by
  refine e_r_iload_n (pc' := 14) dX1_fillBest_13 rfl rfl rfl ?_
  refine e_r_iload_n (pc' := 15) dX1_fillBest_14 rfl rfl rfl ?_
  obtain ⟨ht1, hf2⟩ := h
  refine e_r_icmp_gt (tgt := 42) (pc' := 18) dX1_fillBest_15 rfl rfl (fun c => ?_) (fun c => ?_)
  · have h := ht1 c
    refine e_r_aload_n (pc' := 43) (by decide) dX1_fillBest_42 rfl rfl rfl ?_
    refine e_r_getr (k := 0) (q := 4) (pc' := 46) cl_1 rfl (Nat.le_of_ble_eq_true rfl) rfl rfl fl_RX1_18 rfl (Nat.le_of_ble_eq_true rfl) dX1_fillBest_43 rfl ?_
    refine e_r_geti (k := 1) (pc' := 49) cl_8 rfl (Nat.le_of_ble_eq_true rfl) rfl rfl fl_RX1_25 dX1_fillBest_46 rfl ?_
    refine e_r_iconst (pc' := 50) dX1_fillBest_49 rfl (by decide) ?_
    refine e_r_isub (pc' := 51) dX1_fillBest_50 rfl ?_
    refine e_r_istore_n (pc' := 52) (loc' := [some (.inr (.inr 50)), some (.inl v1), some (.inl (e_w ((M 4 1) - 1))), none, none, none]) dX1_fillBest_51 rfl rfl rfl rfl rfl ?_
    exact h
  · have h := hf2 c
    refine e_r_aload_n (pc' := 19) (by decide) dX1_fillBest_18 rfl rfl rfl ?_
    refine e_r_getr (k := 1) (q := 51) (pc' := 22) cl_1 rfl (Nat.le_of_ble_eq_true rfl) rfl rfl fl_RX1_11 rfl (Nat.le_of_ble_eq_true rfl) dX1_fillBest_19 rfl ?_
    refine e_r_aload_n (pc' := 23) (by decide) dX1_fillBest_22 rfl rfl rfl ?_
    refine e_r_getr (k := 0) (q := 4) (pc' := 26) cl_1 rfl (Nat.le_of_ble_eq_true rfl) rfl rfl fl_RX1_18 rfl (Nat.le_of_ble_eq_true rfl) dX1_fillBest_23 rfl ?_
    refine e_r_geti (k := 1) (pc' := 29) cl_8 rfl (Nat.le_of_ble_eq_true rfl) rfl rfl fl_RX1_25 dX1_fillBest_26 rfl ?_
    refine e_r_bipush (pc' := 31) dX1_fillBest_29 rfl (by decide) ?_
    refine e_r_imul (pc' := 32) dX1_fillBest_31 rfl ?_
    refine e_r_iload_n (pc' := 33) dX1_fillBest_32 rfl rfl rfl ?_
    refine e_r_iadd (pc' := 34) dX1_fillBest_33 rfl ?_
    refine e_r_iconst (pc' := 35) dX1_fillBest_34 rfl (by decide) ?_
    obtain ⟨hb3, h⟩ := h
    refine e_r_iast (j9 := (e_w ((e_w ((M 4 1) * 64)) + v2)).toNat) (pc' := 36) rfl (Nat.le_of_ble_eq_true rfl) hb3.1 hb3.2 rfl dX1_fillBest_35 rfl ?_
    refine e_r_iinc (pc' := 39) (loc' := [some (.inr (.inr 50)), some (.inl v1), some (.inl (e_w (v2 + 1))), none, none, none]) dX1_fillBest_36 rfl rfl rfl rfl rfl ?_
    refine e_r_goto (pc' := 13) dX1_fillBest_39 rfl ?_
    exact h
theorem wp_X1_fillBest_52 {X : e_X} {d gn : Nat} {o : e_O} (M : e_M) (v1 v2 : Int) (h : ((v2 < 0 → (o = (.inl none, (557, gn, e_RF, M)))) ∧ (¬ (v2 < 0) → e_G X (d + 1) YX1_fillBest 58 [some (.inr (.inr 50)), some (.inl v1), some (.inl v2), some (.inl 0), none, none] [] (557, gn, e_RF, M) o))) : e_G X (d + 1) YX1_fillBest 52 [some (.inr (.inr 50)), some (.inl v1), some (.inl v2), none, none, none] [] (557, gn, e_RF, M) o := by
  refine e_r_iload_n (pc' := 53) dX1_fillBest_52 rfl rfl rfl ?_
  obtain ⟨ht1, hf2⟩ := h
  refine e_r_if_lt (tgt := 139) (pc' := 56) dX1_fillBest_53 rfl rfl (fun c => ?_) (fun c => ?_)
  · have h := ht1 c
    exact e_r_vret rfl dX1_fillBest_139 h
  · have h := hf2 c
    refine e_r_iconst (pc' := 57) dX1_fillBest_56 rfl (by decide) ?_
    refine e_r_istore_n (pc' := 58) (loc' := [some (.inr (.inr 50)), some (.inl v1), some (.inl v2), some (.inl 0), none, none]) dX1_fillBest_57 rfl rfl rfl rfl rfl ?_
    exact h
theorem wp_X1_fillBest_58 {X : e_X} {d gn : Nat} {o : e_O} (M : e_M) (v1 v2 v3 : Int) (h : ((v1 < v3 → e_G X (d + 1) YX1_fillBest 52 [some (.inr (.inr 50)), some (.inl v1), some (.inl (e_w (v2 + (-1)))), none, none, none] [] (557, gn, e_RF, M) o) ∧ (¬ (v1 < v3) → ((0 ≤ (e_w ((e_w ((e_w (v2 + 1)) * 64)) + v3)) ∧ (e_w ((e_w ((e_w (v2 + 1)) * 64)) + v3)) < 448) ∧ e_G X (d + 1) YX1_fillBest 81 [some (.inr (.inr 50)), some (.inl v1), some (.inl v2), some (.inl v3), some (.inl (M 51 (e_w ((e_w ((e_w (v2 + 1)) * 64)) + v3)).toNat)), some (.inl 0)] [] (557, gn, e_RF, M) o)))) : e_G X (d + 1) YX1_fillBest 58 [some (.inr (.inr 50)), some (.inl v1), some (.inl v2), some (.inl v3), none, none] [] (557, gn, e_RF, M) o := by
  refine e_r_iload_n (pc' := 59) dX1_fillBest_58 rfl rfl rfl ?_
  refine e_r_iload_n (pc' := 60) dX1_fillBest_59 rfl rfl rfl ?_
  obtain ⟨ht1, hf2⟩ := h
  refine e_r_icmp_gt (tgt := 133) (pc' := 63) dX1_fillBest_60 rfl rfl (fun c => ?_) (fun c => ?_)
  · have h := ht1 c
    refine e_r_iinc (pc' := 136) (loc' := [some (.inr (.inr 50)), some (.inl v1), some (.inl (e_w (v2 + (-1)))), some (.inl v3), none, none]) dX1_fillBest_133 rfl rfl rfl rfl rfl ?_
    refine e_r_goto (pc' := 52) dX1_fillBest_136 rfl ?_
    exact e_forget (m := [true, true, true, false, false, false]) h rfl
  · have h := hf2 c
    refine e_r_aload_n (pc' := 64) (by decide) dX1_fillBest_63 rfl rfl rfl ?_
    refine e_r_getr (k := 1) (q := 51) (pc' := 67) cl_1 rfl (Nat.le_of_ble_eq_true rfl) rfl rfl fl_RX1_11 rfl (Nat.le_of_ble_eq_true rfl) dX1_fillBest_64 rfl ?_
    refine e_r_iload_n (pc' := 68) dX1_fillBest_67 rfl rfl rfl ?_
    refine e_r_iconst (pc' := 69) dX1_fillBest_68 rfl (by decide) ?_
    refine e_r_iadd (pc' := 70) dX1_fillBest_69 rfl ?_
    refine e_r_bipush (pc' := 72) dX1_fillBest_70 rfl (by decide) ?_
    refine e_r_imul (pc' := 73) dX1_fillBest_72 rfl ?_
    refine e_r_iload_n (pc' := 74) dX1_fillBest_73 rfl rfl rfl ?_
    refine e_r_iadd (pc' := 75) dX1_fillBest_74 rfl ?_
    obtain ⟨hb3, h⟩ := h
    refine e_r_iald (j9 := (e_w ((e_w ((e_w (v2 + 1)) * 64)) + v3)).toNat) (pc' := 76) rfl (Nat.le_of_ble_eq_true rfl) hb3.1 hb3.2 rfl dX1_fillBest_75 rfl ?_
    refine e_r_istore (pc' := 78) (loc' := [some (.inr (.inr 50)), some (.inl v1), some (.inl v2), some (.inl v3), some (.inl (M 51 (e_w ((e_w ((e_w (v2 + 1)) * 64)) + v3)).toNat)), none]) dX1_fillBest_76 rfl rfl rfl rfl ?_
    refine e_r_iconst (pc' := 79) dX1_fillBest_78 rfl (by decide) ?_
    refine e_r_istore (pc' := 81) (loc' := [some (.inr (.inr 50)), some (.inl v1), some (.inl v2), some (.inl v3), some (.inl (M 51 (e_w ((e_w ((e_w (v2 + 1)) * 64)) + v3)).toNat)), some (.inl 0)]) dX1_fillBest_79 rfl rfl rfl rfl ?_
    exact h
theorem wp_X1_fillBest_81 {X : e_X} {d gn : Nat} {o : e_O} (M : e_M) (v1 v2 v3 v4 v5 : Int) (hmo : e_mn (557, gn, e_RF, M) o.2) (h : (((M 4 0) ≤ v5 → ((0 ≤ (e_w ((e_w (v2 * 64)) + v3)) ∧ (e_w ((e_w (v2 * 64)) + v3)) < 448) ∧ e_G X (d + 1) YX1_fillBest 58 [some (.inr (.inr 50)), some (.inl v1), some (.inl v2), some (.inl (e_w (v3 + 1))), none, none] [] (557, gn, e_RF, (e_up M 51 (e_w ((e_w (v2 * 64)) + v3)).toNat v4)) o)) ∧ (¬ ((M 4 0) ≤ v5) → (∃ (r5 : Int) (N4 : e_M), e_E X d YX1_worthBy [.inr (.inr 50), .inl v2, .inl v5, .inl v3] (557, gn, e_RF, M) (.inl (some (.inl r5)), (557, gn, e_RF, N4)) ∧ e_G X (d + 1) YX1_fillBest 81 [some (.inr (.inr 50)), some (.inl v1), some (.inl v2), some (.inl v3), some (.inl (max v4 r5)), some (.inl (e_w (v5 + 1)))] [] (557, gn, e_RF, N4) o)))) : e_G X (d + 1) YX1_fillBest 81 [some (.inr (.inr 50)), some (.inl v1), some (.inl v2), some (.inl v3), some (.inl v4), some (.inl v5)] [] (557, gn, e_RF, M) o := by
  refine e_r_iload (pc' := 83) dX1_fillBest_81 rfl rfl ?_
  refine e_r_aload_n (pc' := 84) (by decide) dX1_fillBest_83 rfl rfl rfl ?_
  refine e_r_getr (k := 0) (q := 4) (pc' := 87) cl_1 rfl (Nat.le_of_ble_eq_true rfl) rfl rfl fl_RX1_18 rfl (Nat.le_of_ble_eq_true rfl) dX1_fillBest_84 rfl ?_
  refine e_r_geti (k := 0) (pc' := 90) cl_8 rfl (Nat.le_of_ble_eq_true rfl) rfl rfl fl_RX1_35 dX1_fillBest_87 rfl ?_
  obtain ⟨ht1, hf2⟩ := h
  refine e_r_icmp_ge (tgt := 114) (pc' := 93) dX1_fillBest_90 rfl rfl (fun c => ?_) (fun c => ?_)
  · have h := ht1 c
    refine e_r_aload_n (pc' := 115) (by decide) dX1_fillBest_114 rfl rfl rfl ?_
    refine e_r_getr (k := 1) (q := 51) (pc' := 118) cl_1 rfl (Nat.le_of_ble_eq_true rfl) rfl rfl fl_RX1_11 rfl (Nat.le_of_ble_eq_true rfl) dX1_fillBest_115 rfl ?_
    refine e_r_iload_n (pc' := 119) dX1_fillBest_118 rfl rfl rfl ?_
    refine e_r_bipush (pc' := 121) dX1_fillBest_119 rfl (by decide) ?_
    refine e_r_imul (pc' := 122) dX1_fillBest_121 rfl ?_
    refine e_r_iload_n (pc' := 123) dX1_fillBest_122 rfl rfl rfl ?_
    refine e_r_iadd (pc' := 124) dX1_fillBest_123 rfl ?_
    refine e_r_iload (pc' := 126) dX1_fillBest_124 rfl rfl ?_
    obtain ⟨hb3, h⟩ := h
    refine e_r_iast (j9 := (e_w ((e_w (v2 * 64)) + v3)).toNat) (pc' := 127) rfl (Nat.le_of_ble_eq_true rfl) hb3.1 hb3.2 rfl dX1_fillBest_126 rfl ?_
    refine e_r_iinc (pc' := 130) (loc' := [some (.inr (.inr 50)), some (.inl v1), some (.inl v2), some (.inl (e_w (v3 + 1))), some (.inl v4), some (.inl v5)]) dX1_fillBest_127 rfl rfl rfl rfl rfl ?_
    refine e_r_goto (pc' := 58) dX1_fillBest_130 rfl ?_
    exact e_forget (m := [true, true, true, true, false, false]) h rfl
  · have h := hf2 c
    refine e_r_iload (pc' := 95) dX1_fillBest_93 rfl rfl ?_
    refine e_r_aload_n (pc' := 96) (by decide) dX1_fillBest_95 rfl rfl rfl ?_
    refine e_r_iload_n (pc' := 97) dX1_fillBest_96 rfl rfl rfl ?_
    refine e_r_iload (pc' := 99) dX1_fillBest_97 rfl rfl ?_
    refine e_r_iload_n (pc' := 100) dX1_fillBest_99 rfl rfl rfl ?_
    obtain ⟨r5, N4, he6, h⟩ := h
    refine e_r_callV (a := 50) (av := [.inl v2, .inl v5, .inl v3]) (st := [.inl v4]) mqYX1_worthBy ml_RX1_42 cl_1 rfl (Nat.le_of_ble_eq_true rfl) (by simp [e_cat]) rfl rfl rfl dX1_fillBest_100 (pc' := 103) rfl he6 ⟨Nat.le_refl _, Nat.le_refl _⟩ hmo ?_
    refine e_r_max (pc' := 106) lk_RX1_46 rfl dX1_fillBest_103 rfl ?_
    refine e_r_istore (pc' := 108) (loc' := [some (.inr (.inr 50)), some (.inl v1), some (.inl v2), some (.inl v3), some (.inl (max v4 r5)), some (.inl v5)]) dX1_fillBest_106 rfl rfl rfl rfl ?_
    refine e_r_iinc (pc' := 111) (loc' := [some (.inr (.inr 50)), some (.inl v1), some (.inl v2), some (.inl v3), some (.inl (max v4 r5)), some (.inl (e_w (v5 + 1)))]) dX1_fillBest_108 rfl rfl rfl rfl rfl ?_
    refine e_r_goto (pc' := 81) dX1_fillBest_111 rfl ?_
    exact h
theorem wp_X1_worthBy_0 {X : e_X} {d gn : Nat} {o : e_O} (M : e_M) (p1 p2 p3 : Int) (h : (((e_and (e_shr p3 p2) 1) = 0 → (o = (.inl (some (.inl (-1))), (557, gn, e_RF, M)))) ∧ (¬ ((e_and (e_shr p3 p2) 1) = 0) → ((0 ≤ p2 ∧ p2 < 6) ∧ ((¬ (e_and (e_shr (M 7 p2.toNat) p1) 1) = 0 → ((0 ≤ p1 ∧ p1 < 6) ∧ ((0 ≤ (e_w ((e_w ((e_w (p1 + 1)) * 64)) + (e_and p3 (e_xor (e_shl 1 p2) (-1))))) ∧ (e_w ((e_w ((e_w (p1 + 1)) * 64)) + (e_and p3 (e_xor (e_shl 1 p2) (-1))))) < 448) ∧ (o = (.inl (some (.inl (e_w ((M 8 p1.toNat) + (M 51 (e_w ((e_w ((e_w (p1 + 1)) * 64)) + (e_and p3 (e_xor (e_shl 1 p2) (-1))))).toNat))))), (557, gn, e_RF, M)))))) ∧ ((e_and (e_shr (M 7 p2.toNat) p1) 1) = 0 → (o = (.inl (some (.inl (-1))), (557, gn, e_RF, M))))))))) : e_G X d YX1_worthBy 0 [some (.inr (.inr 50)), some (.inl p1), some (.inl p2), some (.inl p3)] [] (557, gn, e_RF, M) o := by
  refine e_r_iload_n (pc' := 1) dX1_worthBy_0 rfl rfl rfl ?_
  refine e_r_iload_n (pc' := 2) dX1_worthBy_1 rfl rfl rfl ?_
  refine e_r_ishr (pc' := 3) dX1_worthBy_2 rfl ?_
  refine e_r_iconst (pc' := 4) dX1_worthBy_3 rfl (by decide) ?_
  refine e_r_iand (pc' := 5) dX1_worthBy_4 rfl ?_
  obtain ⟨ht1, hf2⟩ := h
  refine e_r_if_eq (tgt := 24) (pc' := 8) dX1_worthBy_5 rfl rfl (fun c => ?_) (fun c => ?_)
  · have h := ht1 c
    refine e_r_iconst (pc' := 25) dX1_worthBy_24 rfl (by decide) ?_
    exact e_r_iret (ty := .int) rfl (e_nI _) dX1_worthBy_25 h
  · have h := hf2 c
    refine e_r_aload_n (pc' := 9) (by decide) dX1_worthBy_8 rfl rfl rfl ?_
    refine e_r_getr (k := 0) (q := 4) (pc' := 12) cl_1 rfl (Nat.le_of_ble_eq_true rfl) rfl rfl fl_RX1_18 rfl (Nat.le_of_ble_eq_true rfl) dX1_worthBy_9 rfl ?_
    refine e_r_getr (k := 5) (q := 7) (pc' := 15) cl_8 rfl (Nat.le_of_ble_eq_true rfl) rfl rfl fl_RX1_51 rfl (Nat.le_of_ble_eq_true rfl) dX1_worthBy_12 rfl ?_
    refine e_r_iload_n (pc' := 16) dX1_worthBy_15 rfl rfl rfl ?_
    obtain ⟨hb3, h⟩ := h
    refine e_r_iald (j9 := p2.toNat) (pc' := 17) rfl (Nat.le_of_ble_eq_true rfl) hb3.1 hb3.2 rfl dX1_worthBy_16 rfl ?_
    refine e_r_iload_n (pc' := 18) dX1_worthBy_17 rfl rfl rfl ?_
    refine e_r_ishr (pc' := 19) dX1_worthBy_18 rfl ?_
    refine e_r_iconst (pc' := 20) dX1_worthBy_19 rfl (by decide) ?_
    refine e_r_iand (pc' := 21) dX1_worthBy_20 rfl ?_
    obtain ⟨ht4, hf5⟩ := h
    refine e_r_if_ne (tgt := 26) (pc' := 24) dX1_worthBy_21 rfl rfl (fun c => ?_) (fun c => ?_)
    · have h := ht4 c
      refine e_r_aload_n (pc' := 27) (by decide) dX1_worthBy_26 rfl rfl rfl ?_
      refine e_r_getr (k := 0) (q := 4) (pc' := 30) cl_1 rfl (Nat.le_of_ble_eq_true rfl) rfl rfl fl_RX1_18 rfl (Nat.le_of_ble_eq_true rfl) dX1_worthBy_27 rfl ?_
      refine e_r_getr (k := 6) (q := 8) (pc' := 33) cl_8 rfl (Nat.le_of_ble_eq_true rfl) rfl rfl fl_RX1_54 rfl (Nat.le_of_ble_eq_true rfl) dX1_worthBy_30 rfl ?_
      refine e_r_iload_n (pc' := 34) dX1_worthBy_33 rfl rfl rfl ?_
      obtain ⟨hb6, h⟩ := h
      refine e_r_iald (j9 := p1.toNat) (pc' := 35) rfl (Nat.le_of_ble_eq_true rfl) hb6.1 hb6.2 rfl dX1_worthBy_34 rfl ?_
      refine e_r_aload_n (pc' := 36) (by decide) dX1_worthBy_35 rfl rfl rfl ?_
      refine e_r_getr (k := 1) (q := 51) (pc' := 39) cl_1 rfl (Nat.le_of_ble_eq_true rfl) rfl rfl fl_RX1_11 rfl (Nat.le_of_ble_eq_true rfl) dX1_worthBy_36 rfl ?_
      refine e_r_iload_n (pc' := 40) dX1_worthBy_39 rfl rfl rfl ?_
      refine e_r_iconst (pc' := 41) dX1_worthBy_40 rfl (by decide) ?_
      refine e_r_iadd (pc' := 42) dX1_worthBy_41 rfl ?_
      refine e_r_bipush (pc' := 44) dX1_worthBy_42 rfl (by decide) ?_
      refine e_r_imul (pc' := 45) dX1_worthBy_44 rfl ?_
      refine e_r_iload_n (pc' := 46) dX1_worthBy_45 rfl rfl rfl ?_
      refine e_r_iconst (pc' := 47) dX1_worthBy_46 rfl (by decide) ?_
      refine e_r_iload_n (pc' := 48) dX1_worthBy_47 rfl rfl rfl ?_
      refine e_r_ishl (pc' := 49) dX1_worthBy_48 rfl ?_
      refine e_r_iconst (pc' := 50) dX1_worthBy_49 rfl (by decide) ?_
      refine e_r_ixor (pc' := 51) dX1_worthBy_50 rfl ?_
      refine e_r_iand (pc' := 52) dX1_worthBy_51 rfl ?_
      refine e_r_iadd (pc' := 53) dX1_worthBy_52 rfl ?_
      obtain ⟨hb7, h⟩ := h
      refine e_r_iald (j9 := (e_w ((e_w ((e_w (p1 + 1)) * 64)) + (e_and p3 (e_xor (e_shl 1 p2) (-1))))).toNat) (pc' := 54) rfl (Nat.le_of_ble_eq_true rfl) hb7.1 hb7.2 rfl dX1_worthBy_53 rfl ?_
      refine e_r_iadd (pc' := 55) dX1_worthBy_54 rfl ?_
      exact e_r_iret (ty := .int) rfl (e_nI _) dX1_worthBy_55 h
    · have h := hf5 c
      refine e_r_iconst (pc' := 25) dX1_worthBy_24 rfl (by decide) ?_
      exact e_r_iret (ty := .int) rfl (e_nI _) dX1_worthBy_25 h
theorem wp_X1_firstGiver_0 {X : e_X} {d gn : Nat} {o : e_O} (M : e_M) (p1 p2 : Int) (h : e_G X (d + 1) YX1_firstGiver 2 [some (.inr (.inr 50)), some (.inl p1), some (.inl p2), some (.inl 0)] [] (557, gn, e_RF, M) o) : e_G X (d + 1) YX1_firstGiver 0 [some (.inr (.inr 50)), some (.inl p1), some (.inl p2), none] [] (557, gn, e_RF, M) o := by
  refine e_r_iconst (pc' := 1) dX1_firstGiver_0 rfl (by decide) ?_
  refine e_r_istore_n (pc' := 2) (loc' := [some (.inr (.inr 50)), some (.inl p1), some (.inl p2), some (.inl 0)]) dX1_firstGiver_1 rfl rfl rfl rfl rfl ?_
  exact h
theorem wp_X1_firstGiver_2 {X : e_X} {d gn : Nat} {o : e_O} (M : e_M) (p1 p2 v3 : Int) (hmo : e_mn (557, gn, e_RF, M) o.2) (h : (((M 4 0) ≤ v3 → (o = (.inl (some (.inl (-1))), (557, gn, e_RF, M)))) ∧ (¬ ((M 4 0) ≤ v3) → (∃ (r4 : Int) (N3 : e_M), e_E X d YX1_worthBy [.inr (.inr 50), .inl p1, .inl v3, .inl p2] (557, gn, e_RF, M) (.inl (some (.inl r4)), (557, gn, e_RF, N3)) ∧ ((0 ≤ (e_w ((e_w (p1 * 64)) + p2)) ∧ (e_w ((e_w (p1 * 64)) + p2)) < 448) ∧ ((¬ r4 = (N3 51 (e_w ((e_w (p1 * 64)) + p2)).toNat) → e_G X (d + 1) YX1_firstGiver 2 [some (.inr (.inr 50)), some (.inl p1), some (.inl p2), some (.inl (e_w (v3 + 1)))] [] (557, gn, e_RF, N3) o) ∧ (r4 = (N3 51 (e_w ((e_w (p1 * 64)) + p2)).toNat) → (o = (.inl (some (.inl v3)), (557, gn, e_RF, N3)))))))))) : e_G X (d + 1) YX1_firstGiver 2 [some (.inr (.inr 50)), some (.inl p1), some (.inl p2), some (.inl v3)] [] (557, gn, e_RF, M) o := by
  refine e_r_iload_n (pc' := 3) dX1_firstGiver_2 rfl rfl rfl ?_
  refine e_r_aload_n (pc' := 4) (by decide) dX1_firstGiver_3 rfl rfl rfl ?_
  refine e_r_getr (k := 0) (q := 4) (pc' := 7) cl_1 rfl (Nat.le_of_ble_eq_true rfl) rfl rfl fl_RX1_18 rfl (Nat.le_of_ble_eq_true rfl) dX1_firstGiver_4 rfl ?_
  refine e_r_geti (k := 0) (pc' := 10) cl_8 rfl (Nat.le_of_ble_eq_true rfl) rfl rfl fl_RX1_35 dX1_firstGiver_7 rfl ?_
  obtain ⟨ht1, hf2⟩ := h
  refine e_r_icmp_ge (tgt := 42) (pc' := 13) dX1_firstGiver_10 rfl rfl (fun c => ?_) (fun c => ?_)
  · have h := ht1 c
    refine e_r_iconst (pc' := 43) dX1_firstGiver_42 rfl (by decide) ?_
    exact e_r_iret (ty := .int) rfl (e_nI _) dX1_firstGiver_43 h
  · have h := hf2 c
    refine e_r_aload_n (pc' := 14) (by decide) dX1_firstGiver_13 rfl rfl rfl ?_
    refine e_r_iload_n (pc' := 15) dX1_firstGiver_14 rfl rfl rfl ?_
    refine e_r_iload_n (pc' := 16) dX1_firstGiver_15 rfl rfl rfl ?_
    refine e_r_iload_n (pc' := 17) dX1_firstGiver_16 rfl rfl rfl ?_
    obtain ⟨r4, N3, he5, h⟩ := h
    refine e_r_callV (a := 50) (av := [.inl p1, .inl v3, .inl p2]) (st := []) mqYX1_worthBy ml_RX1_42 cl_1 rfl (Nat.le_of_ble_eq_true rfl) (by simp [e_cat]) rfl rfl rfl dX1_firstGiver_17 (pc' := 20) rfl he5 ⟨Nat.le_refl _, Nat.le_refl _⟩ hmo ?_
    refine e_r_aload_n (pc' := 21) (by decide) dX1_firstGiver_20 rfl rfl rfl ?_
    refine e_r_getr (k := 1) (q := 51) (pc' := 24) cl_1 rfl (Nat.le_of_ble_eq_true rfl) rfl rfl fl_RX1_11 rfl (Nat.le_of_ble_eq_true rfl) dX1_firstGiver_21 rfl ?_
    refine e_r_iload_n (pc' := 25) dX1_firstGiver_24 rfl rfl rfl ?_
    refine e_r_bipush (pc' := 27) dX1_firstGiver_25 rfl (by decide) ?_
    refine e_r_imul (pc' := 28) dX1_firstGiver_27 rfl ?_
    refine e_r_iload_n (pc' := 29) dX1_firstGiver_28 rfl rfl rfl ?_
    refine e_r_iadd (pc' := 30) dX1_firstGiver_29 rfl ?_
    obtain ⟨hb6, h⟩ := h
    refine e_r_iald (j9 := (e_w ((e_w (p1 * 64)) + p2)).toNat) (pc' := 31) rfl (Nat.le_of_ble_eq_true rfl) hb6.1 hb6.2 rfl dX1_firstGiver_30 rfl ?_
    obtain ⟨ht7, hf8⟩ := h
    refine e_r_icmp_ne (tgt := 36) (pc' := 34) dX1_firstGiver_31 rfl rfl (fun c => ?_) (fun c => ?_)
    · have h := ht7 c
      refine e_r_iinc (pc' := 39) (loc' := [some (.inr (.inr 50)), some (.inl p1), some (.inl p2), some (.inl (e_w (v3 + 1)))]) dX1_firstGiver_36 rfl rfl rfl rfl rfl ?_
      refine e_r_goto (pc' := 2) dX1_firstGiver_39 rfl ?_
      exact h
    · have h := hf8 c
      refine e_r_iload_n (pc' := 35) dX1_firstGiver_34 rfl rfl rfl ?_
      exact e_r_iret (ty := .int) rfl (e_nI _) dX1_firstGiver_35 h
