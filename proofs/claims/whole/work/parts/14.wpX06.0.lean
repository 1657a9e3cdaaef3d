theorem wp_X6_searchFrom_0 {X : e_X} {d gn : Nat} {o : e_O} (M : e_M) (p1 p2 p3 : Int) (hmo : e_mn (557, gn, e_RF, M) o.2) (h : ((p1 < (M 53 3) → ((0 ≤ (M 53 2) ∧ (M 53 2) < 6) ∧ (∃ N4 : e_M, e_E X d YX6_searchFrom [.inr (.inr 53), .inl (e_w (p1 + 1)), .inl p2, .inl (min 999 (e_w (p3 + (M 6 (M 53 2).toNat))))] (557, gn, e_RF, M) (.inl none, (557, gn, e_RF, N4)) ∧ (((e_and (e_shr (N4 53 6) p1) 1) = 0 → (∃ (r9 : Int) (N8 : e_M), e_E X d YJ6_bitCount_0f7a4 [.inl p2] (557, gn, e_RF, (e_up N4 23 0 (e_w ((N4 53 4) + p1)))) (.inl (some (.inl r9)), (557, gn, e_RF, N8)) ∧ (∃ (r12 : Int) (N11 : e_M), e_E X d YX2_priceOfSeen [.inr (.inr 20)] (557, gn, e_RF, (e_up (e_up N8 23 2 (e_w (((e_up N4 23 0 (e_w ((N4 53 4) + p1))) 53 5) + r9))) 23 3 p3)) (.inl (some (.inl r12)), (557, gn, e_RF, N11)) ∧ ((p3 < r12 → (o = (.inl none, (557, gn, e_RF, N11)))) ∧ (¬ (p3 < r12) → (∃ N16 : e_M, e_E X d YX6_searchFrom [.inr (.inr 53), .inl (e_w (p1 + 1)), .inl (e_or p2 (e_shl 1 p1)), .inl (e_w (p3 - r12))] (557, gn, e_RF, N11) (.inl none, (557, gn, e_RF, N16)) ∧ (o = (.inl none, (557, gn, e_RF, N16))))))))) ∧ (¬ ((e_and (e_shr (N4 53 6) p1) 1) = 0) → (o = (.inl none, (557, gn, e_RF, N4)))))))) ∧ (¬ (p1 < (M 53 3)) → (∃ N18 : e_M, e_E X d YX6_noteSet [.inr (.inr 53), .inl p2] (557, gn, e_RF, M) (.inl none, (557, gn, e_RF, N18)) ∧ (o = (.inl none, (557, gn, e_RF, N18))))))) : e_G X (d + 1) YX6_searchFrom 0 [some (.inr (.inr 53)), some (.inl p1), some (.inl p2), some (.inl p3), none, none] [] (557, gn, e_RF, M) o := by
  refine e_r_iload_n (pc' := 1) dX6_searchFrom_0 rfl rfl rfl ?_
  refine e_r_aload_n (pc' := 2) (by decide) dX6_searchFrom_1 rfl rfl rfl ?_
  refine e_r_geti (k := 3) (pc' := 5) cl_6 rfl (Nat.le_of_ble_eq_true rfl) rfl rfl fl_RX6_15 dX6_searchFrom_2 rfl ?_
  obtain ⟨ht1, hf2⟩ := h
  refine e_r_icmp_lt (tgt := 14) (pc' := 8) dX6_searchFrom_5 rfl rfl (fun c => ?_) (fun c => ?_)
  · have h := ht1 c
    refine e_r_aload_n (pc' := 15) (by decide) dX6_searchFrom_14 rfl rfl rfl ?_
    refine e_r_iload_n (pc' := 16) dX6_searchFrom_15 rfl rfl rfl ?_
    refine e_r_iconst (pc' := 17) dX6_searchFrom_16 rfl (by decide) ?_
    refine e_r_iadd (pc' := 18) dX6_searchFrom_17 rfl ?_
    refine e_r_iload_n (pc' := 19) dX6_searchFrom_18 rfl rfl rfl ?_
    refine e_r_sipush (pc' := 22) dX6_searchFrom_19 rfl (by decide) ?_
    refine e_r_iload_n (pc' := 23) dX6_searchFrom_22 rfl rfl rfl ?_
    refine e_r_aload_n (pc' := 24) (by decide) dX6_searchFrom_23 rfl rfl rfl ?_
    refine e_r_getr (k := 0) (q := 4) (pc' := 27) cl_6 rfl (Nat.le_of_ble_eq_true rfl) rfl rfl fl_RX6_33 rfl (Nat.le_of_ble_eq_true rfl) dX6_searchFrom_24 rfl ?_
    refine e_r_getr (k := 4) (q := 6) (pc' := 30) cl_8 rfl (Nat.le_of_ble_eq_true rfl) rfl rfl fl_RX6_70 rfl (Nat.le_of_ble_eq_true rfl) dX6_searchFrom_27 rfl ?_
    refine e_r_aload_n (pc' := 31) (by decide) dX6_searchFrom_30 rfl rfl rfl ?_
    refine e_r_geti (k := 2) (pc' := 34) cl_6 rfl (Nat.le_of_ble_eq_true rfl) rfl rfl fl_RX6_9 dX6_searchFrom_31 rfl ?_
    obtain ⟨hb3, h⟩ := h
    refine e_r_iald (j9 := (M 53 2).toNat) (pc' := 35) rfl (Nat.le_of_ble_eq_true rfl) hb3.1 hb3.2 rfl dX6_searchFrom_34 rfl ?_
    refine e_r_iadd (pc' := 36) dX6_searchFrom_35 rfl ?_
    refine e_r_min (pc' := 39) lk_RX6_41 rfl dX6_searchFrom_36 rfl ?_
    obtain ⟨N4, he5, h⟩ := h
    refine e_r_callV (a := 53) (av := [.inl (e_w (p1 + 1)), .inl p2, .inl (min 999 (e_w (p3 + (M 6 (M 53 2).toNat))))]) (st := []) mqYX6_searchFrom ml_RX6_87 cl_6 rfl (Nat.le_of_ble_eq_true rfl) (by simp [e_cat]) rfl rfl rfl dX6_searchFrom_39 (pc' := 42) rfl he5 ⟨Nat.le_refl _, Nat.le_refl _⟩ hmo ?_
    refine e_r_aload_n (pc' := 43) (by decide) dX6_searchFrom_42 rfl rfl rfl ?_
    refine e_r_geti (k := 6) (pc' := 46) cl_6 rfl (Nat.le_of_ble_eq_true rfl) rfl rfl fl_RX6_24 dX6_searchFrom_43 rfl ?_
    refine e_r_iload_n (pc' := 47) dX6_searchFrom_46 rfl rfl rfl ?_
    refine e_r_ishr (pc' := 48) dX6_searchFrom_47 rfl ?_
    refine e_r_iconst (pc' := 49) dX6_searchFrom_48 rfl (by decide) ?_
    refine e_r_iand (pc' := 50) dX6_searchFrom_49 rfl ?_
    obtain ⟨ht6, hf7⟩ := h
    refine e_r_if_eq (tgt := 54) (pc' := 53) dX6_searchFrom_50 rfl rfl (fun c => ?_) (fun c => ?_)
    · have h := ht6 c
      refine e_r_aload_n (pc' := 55) (by decide) dX6_searchFrom_54 rfl rfl rfl ?_
      refine e_r_getr (k := 1) (q := 20) (pc' := 58) cl_6 rfl (Nat.le_of_ble_eq_true rfl) rfl rfl fl_RX6_37 rfl (Nat.le_of_ble_eq_true rfl) dX6_searchFrom_55 rfl ?_
      refine e_r_getr (k := 3) (q := 23) (pc' := 61) cl_2 rfl (Nat.le_of_ble_eq_true rfl) rfl rfl fl_RX6_65 rfl (Nat.le_of_ble_eq_true rfl) dX6_searchFrom_58 rfl ?_
      refine e_r_astore (pc' := 63) (loc' := [some (.inr (.inr 53)), some (.inl p1), some (.inl p2), some (.inl p3), some (.inr (.inr 23)), none]) (by decide) dX6_searchFrom_61 rfl rfl rfl rfl ?_
      refine e_r_aload (pc' := 65) (by decide) dX6_searchFrom_63 rfl rfl ?_
      refine e_r_iconst (pc' := 66) dX6_searchFrom_65 rfl (by decide) ?_
      refine e_r_aload_n (pc' := 67) (by decide) dX6_searchFrom_66 rfl rfl rfl ?_
      refine e_r_geti (k := 4) (pc' := 70) cl_6 rfl (Nat.le_of_ble_eq_true rfl) rfl rfl fl_RX6_18 dX6_searchFrom_67 rfl ?_
      refine e_r_iload_n (pc' := 71) dX6_searchFrom_70 rfl rfl rfl ?_
      refine e_r_iadd (pc' := 72) dX6_searchFrom_71 rfl ?_
      refine e_r_iast (j9 := 0) (pc' := 73) rfl (Nat.le_of_ble_eq_true rfl) (by decide) (by decide) rfl dX6_searchFrom_72 rfl ?_
      refine e_r_aload (pc' := 75) (by decide) dX6_searchFrom_73 rfl rfl ?_
      refine e_r_iconst (pc' := 76) dX6_searchFrom_75 rfl (by decide) ?_
      refine e_r_aload_n (pc' := 77) (by decide) dX6_searchFrom_76 rfl rfl rfl ?_
      refine e_r_geti (k := 5) (pc' := 80) cl_6 rfl (Nat.le_of_ble_eq_true rfl) rfl rfl fl_RX6_21 dX6_searchFrom_77 rfl ?_
      refine e_r_iload_n (pc' := 81) dX6_searchFrom_80 rfl rfl rfl ?_
      obtain ⟨r9, N8, he10, h⟩ := h
      refine e_r_callS (av := [.inl p2]) (st := [.inl ((e_up N4 23 0 (e_w ((N4 53 4) + p1))) 53 5), .inl 2, .inr (.inr 23)]) mqYJ6_bitCount_0f7a4 ml_RX6_79 (by simp [e_cat]) rfl rfl rfl dX6_searchFrom_81 (pc' := 84) rfl he10 ⟨Nat.le_refl _, Nat.le_refl _⟩ hmo ?_
      refine e_r_iadd (pc' := 85) dX6_searchFrom_84 rfl ?_
      refine e_r_iast (j9 := 2) (pc' := 86) rfl (Nat.le_of_ble_eq_true rfl) (by decide) (by decide) rfl dX6_searchFrom_85 rfl ?_
      refine e_r_aload (pc' := 88) (by decide) dX6_searchFrom_86 rfl rfl ?_
      refine e_r_iconst (pc' := 89) dX6_searchFrom_88 rfl (by decide) ?_
      refine e_r_iload_n (pc' := 90) dX6_searchFrom_89 rfl rfl rfl ?_
      refine e_r_iast (j9 := 3) (pc' := 91) rfl (Nat.le_of_ble_eq_true rfl) (by decide) (by decide) rfl dX6_searchFrom_90 rfl ?_
      refine e_r_aload_n (pc' := 92) (by decide) dX6_searchFrom_91 rfl rfl rfl ?_
      refine e_r_getr (k := 1) (q := 20) (pc' := 95) cl_6 rfl (Nat.le_of_ble_eq_true rfl) rfl rfl fl_RX6_37 rfl (Nat.le_of_ble_eq_true rfl) dX6_searchFrom_92 rfl ?_
      obtain ⟨r12, N11, he13, h⟩ := h
      refine e_r_callV (a := 20) (av := []) (st := []) mqYX2_priceOfSeen ml_RX6_95 cl_2 rfl (Nat.le_of_ble_eq_true rfl) (by simp [e_cat]) rfl rfl rfl dX6_searchFrom_95 (pc' := 98) rfl he13 ⟨Nat.le_refl _, Nat.le_refl _⟩ hmo ?_
      refine e_r_istore (pc' := 100) (loc' := [some (.inr (.inr 53)), some (.inl p1), some (.inl p2), some (.inl p3), some (.inr (.inr 23)), some (.inl r12)]) dX6_searchFrom_98 rfl rfl rfl rfl ?_
      refine e_r_iload (pc' := 102) dX6_searchFrom_100 rfl rfl ?_
      refine e_r_iload_n (pc' := 103) dX6_searchFrom_102 rfl rfl rfl ?_
      obtain ⟨ht14, hf15⟩ := h
      refine e_r_icmp_gt (tgt := 122) (pc' := 106) dX6_searchFrom_103 rfl rfl (fun c => ?_) (fun c => ?_)
      · have h := ht14 c
        exact e_r_vret rfl dX6_searchFrom_122 h
      · have h := hf15 c
        refine e_r_aload_n (pc' := 107) (by decide) dX6_searchFrom_106 rfl rfl rfl ?_
        refine e_r_iload_n (pc' := 108) dX6_searchFrom_107 rfl rfl rfl ?_
        refine e_r_iconst (pc' := 109) dX6_searchFrom_108 rfl (by decide) ?_
        refine e_r_iadd (pc' := 110) dX6_searchFrom_109 rfl ?_
        refine e_r_iload_n (pc' := 111) dX6_searchFrom_110 rfl rfl rfl ?_
        refine e_r_iconst (pc' := 112) dX6_searchFrom_111 rfl (by decide) ?_
        refine e_r_iload_n (pc' := 113) dX6_searchFrom_112 rfl rfl rfl ?_
        refine e_r_ishl (pc' := 114) dX6_searchFrom_113 rfl ?_
        refine e_r_ior (pc' := 115) dX6_searchFrom_114 rfl ?_
        refine e_r_iload_n (pc' := 116) dX6_searchFrom_115 rfl rfl rfl ?_
        refine e_r_iload (pc' := 118) dX6_searchFrom_116 rfl rfl ?_
        refine e_r_isub (pc' := 119) dX6_searchFrom_118 rfl ?_
        obtain ⟨N16, he17, h⟩ := h
        refine e_r_callV (a := 53) (av := [.inl (e_w (p1 + 1)), .inl (e_or p2 (e_shl 1 p1)), .inl (e_w (p3 - r12))]) (st := []) mqYX6_searchFrom ml_RX6_87 cl_6 rfl (Nat.le_of_ble_eq_true rfl) (by simp [e_cat]) rfl rfl rfl dX6_searchFrom_119 (pc' := 122) rfl he17 ⟨Nat.le_refl _, Nat.le_refl _⟩ hmo ?_
        exact e_r_vret rfl dX6_searchFrom_122 h
    · have h := hf7 c
      exact e_r_vret rfl dX6_searchFrom_53 h
  · have h := hf2 c
    refine e_r_aload_n (pc' := 9) (by decide) dX6_searchFrom_8 rfl rfl rfl ?_
    refine e_r_iload_n (pc' := 10) dX6_searchFrom_9 rfl rfl rfl ?_
    obtain ⟨N18, he19, h⟩ := h
    refine e_r_callV (a := 53) (av := [.inl p2]) (st := []) mqYX6_noteSet ml_RX6_91 cl_6 rfl (Nat.le_of_ble_eq_true rfl) (by simp [e_cat]) rfl rfl rfl dX6_searchFrom_10 (pc' := 13) rfl he19 ⟨Nat.le_refl _, Nat.le_refl _⟩ hmo ?_
    exact e_r_vret rfl dX6_searchFrom_13 h
theorem wp_X6_noteSet_0 {X : e_X} {d gn : Nat} {o : e_O} (M : e_M) (p1 : Int) (hmo : e_mn (557, gn, e_RF, M) o.2) (h : (∃ (r2 : Int) (N1 : e_M), e_E X d YJ6_bitCount_0f7a4 [.inl p1] (557, gn, e_RF, M) (.inl (some (.inl r2)), (557, gn, e_RF, N1)) ∧ (((N1 53 7) < r2 → (o = (.inl none, (557, gn, e_RF, (e_up (e_up N1 53 7 r2) 53 8 p1))))) ∧ (¬ ((N1 53 7) < r2) → ((¬ r2 = (N1 53 7) → (o = (.inl none, (557, gn, e_RF, N1)))) ∧ (r2 = (N1 53 7) → (((N1 53 8) ≤ p1 → (o = (.inl none, (557, gn, e_RF, N1)))) ∧ (¬ ((N1 53 8) ≤ p1) → (o = (.inl none, (557, gn, e_RF, (e_up (e_up N1 53 7 r2) 53 8 p1)))))))))))) : e_G X (d + 1) YX6_noteSet 0 [some (.inr (.inr 53)), some (.inl p1), none] [] (557, gn, e_RF, M) o := by
  refine e_r_iload_n (pc' := 1) dX6_noteSet_0 rfl rfl rfl ?_
  obtain ⟨r2, N1, he3, h⟩ := h
  refine e_r_callS (av := [.inl p1]) (st := []) mqYJ6_bitCount_0f7a4 ml_RX6_79 (by simp [e_cat]) rfl rfl rfl dX6_noteSet_1 (pc' := 4) rfl he3 ⟨Nat.le_refl _, Nat.le_refl _⟩ hmo ?_
  refine e_r_istore_n (pc' := 5) (loc' := [some (.inr (.inr 53)), some (.inl p1), some (.inl r2)]) dX6_noteSet_4 rfl rfl rfl rfl rfl ?_
  refine e_r_iload_n (pc' := 6) dX6_noteSet_5 rfl rfl rfl ?_
  refine e_r_aload_n (pc' := 7) (by decide) dX6_noteSet_6 rfl rfl rfl ?_
  refine e_r_geti (k := 7) (pc' := 10) cl_6 rfl (Nat.le_of_ble_eq_true rfl) rfl rfl fl_RX6_27 dX6_noteSet_7 rfl ?_
  obtain ⟨ht4, hf5⟩ := h
  refine e_r_icmp_gt (tgt := 29) (pc' := 13) dX6_noteSet_10 rfl rfl (fun c => ?_) (fun c => ?_)
  · have h := ht4 c
    refine e_r_aload_n (pc' := 30) (by decide) dX6_noteSet_29 rfl rfl rfl ?_
    refine e_r_iload_n (pc' := 31) dX6_noteSet_30 rfl rfl rfl ?_
    refine e_r_puti (k := 7) (pc' := 34) cl_6 rfl (Nat.le_of_ble_eq_true rfl) rfl rfl fl_RX6_27 rfl (by decide +kernel) dX6_noteSet_31 rfl ?_
    refine e_r_aload_n (pc' := 35) (by decide) dX6_noteSet_34 rfl rfl rfl ?_
    refine e_r_iload_n (pc' := 36) dX6_noteSet_35 rfl rfl rfl ?_
    refine e_r_puti (k := 8) (pc' := 39) cl_6 rfl (Nat.le_of_ble_eq_true rfl) rfl rfl fl_RX6_30 rfl (by decide +kernel) dX6_noteSet_36 rfl ?_
    exact e_r_vret rfl dX6_noteSet_39 h
  · have h := hf5 c
    refine e_r_iload_n (pc' := 14) dX6_noteSet_13 rfl rfl rfl ?_
    refine e_r_aload_n (pc' := 15) (by decide) dX6_noteSet_14 rfl rfl rfl ?_
    refine e_r_geti (k := 7) (pc' := 18) cl_6 rfl (Nat.le_of_ble_eq_true rfl) rfl rfl fl_RX6_27 dX6_noteSet_15 rfl ?_
    obtain ⟨ht6, hf7⟩ := h
    refine e_r_icmp_ne (tgt := 39) (pc' := 21) dX6_noteSet_18 rfl rfl (fun c => ?_) (fun c => ?_)
    · have h := ht6 c
      exact e_r_vret rfl dX6_noteSet_39 h
    · have h := hf7 c
      refine e_r_iload_n (pc' := 22) dX6_noteSet_21 rfl rfl rfl ?_
      refine e_r_aload_n (pc' := 23) (by decide) dX6_noteSet_22 rfl rfl rfl ?_
      refine e_r_geti (k := 8) (pc' := 26) cl_6 rfl (Nat.le_of_ble_eq_true rfl) rfl rfl fl_RX6_30 dX6_noteSet_23 rfl ?_
      obtain ⟨ht8, hf9⟩ := h
      refine e_r_icmp_ge (tgt := 39) (pc' := 29) dX6_noteSet_26 rfl rfl (fun c => ?_) (fun c => ?_)
      · have h := ht8 c
        exact e_r_vret rfl dX6_noteSet_39 h
      · have h := hf9 c
        refine e_r_aload_n (pc' := 30) (by decide) dX6_noteSet_29 rfl rfl rfl ?_
        refine e_r_iload_n (pc' := 31) dX6_noteSet_30 rfl rfl rfl ?_
        refine e_r_puti (k := 7) (pc' := 34) cl_6 rfl (Nat.le_of_ble_eq_true rfl) rfl rfl fl_RX6_27 rfl (by decide +kernel) dX6_noteSet_31 rfl ?_
        refine e_r_aload_n (pc' := 35) (by decide) dX6_noteSet_34 rfl rfl rfl ?_
        refine e_r_iload_n (pc' := 36) dX6_noteSet_35 rfl rfl rfl ?_
        refine e_r_puti (k := 8) (pc' := 39) cl_6 rfl (Nat.le_of_ble_eq_true rfl) rfl rfl fl_RX6_30 rfl (by decide +kernel) dX6_noteSet_36 rfl ?_
        exact e_r_vret rfl dX6_noteSet_39 h
