theorem wp_X6_searchFor_0 {X : e_X} {d gn : Nat} {o : e_O} (M : e_M) (p2 p3 : Int) (hmo : e_mn (557, gn, e_RF, M) o.2) (h : ((0 ≤ p2 ∧ p2 < 6) ∧ (∃ (r3 : Int) (N2 : e_M), e_E X d YX3_busyBits [.inr (.inr 36), .inl p2, .inl ((e_up (e_up (e_up (e_up M 53 2 p2) 53 3 (min p3 10)) 53 4 ((e_up (e_up M 53 2 p2) 53 3 (min p3 10)) 36 2)) 53 5 ((e_up (e_up (e_up M 53 2 p2) 53 3 (min p3 10)) 53 4 ((e_up (e_up M 53 2 p2) 53 3 (min p3 10)) 36 2)) 39 p2.toNat)) 53 3)] (557, gn, e_RF, (e_up (e_up (e_up (e_up M 53 2 p2) 53 3 (min p3 10)) 53 4 ((e_up (e_up M 53 2 p2) 53 3 (min p3 10)) 36 2)) 53 5 ((e_up (e_up (e_up M 53 2 p2) 53 3 (min p3 10)) 53 4 ((e_up (e_up M 53 2 p2) 53 3 (min p3 10)) 36 2)) 39 p2.toNat))) (.inl (some (.inl r3)), (557, gn, e_RF, N2)) ∧ (∃ (r6 : Int) (N5 : e_M), e_E X d YX10_bitsBelow [.inl ((e_up (e_up (e_up N2 53 6 r3) 53 7 0) 53 8 0) 4 0)] (557, gn, e_RF, (e_up (e_up (e_up N2 53 6 r3) 53 7 0) 53 8 0)) (.inl (some (.inl r6)), (557, gn, e_RF, N5)) ∧ ((0 ≤ p2 ∧ p2 < 6) ∧ ((0 ≤ p2 ∧ p2 < 6) ∧ (∃ (r11 : Int) (N10 : e_M), e_E X d YX8_skillsOf [.inr (.inr 4), .inl (e_and r6 (e_xor (e_shl 1 p2) (-1)))] (557, gn, e_RF, (e_up (e_up N5 23 1 0) 23 4 ((e_up N5 23 1 0) 6 p2.toNat))) (.inl (some (.inl r11)), (557, gn, e_RF, N10)) ∧ (∃ (r14 : Int) (N13 : e_M), e_E X d YJ6_bitCount_0f7a4 [.inl (e_and ((e_up (e_up N5 23 1 0) 23 4 ((e_up N5 23 1 0) 6 p2.toNat)) 7 p2.toNat) (e_xor r11 (-1)))] (557, gn, e_RF, N10) (.inl (some (.inl r14)), (557, gn, e_RF, N13)) ∧ ((0 ≤ p2 ∧ p2 < 6) ∧ (∃ N17 : e_M, e_E X d YX6_searchFrom [.inr (.inr 53), .inl 0, .inl 0, .inl ((e_up (e_up (e_up N13 23 5 r14) 23 6 0) 23 7 p2) 37 p2.toNat)] (557, gn, e_RF, (e_up (e_up (e_up N13 23 5 r14) 23 6 0) 23 7 p2)) (.inl none, (557, gn, e_RF, N17)) ∧ (o = (.inl none, (557, gn, e_RF, N17))))))))))))) : e_G X (d + 1) YX6_searchFor 0 [some (.inr (.inr 53)), some (.inr (.inr 36)), some (.inl p2), some (.inl p3), none, none] [] (557, gn, e_RF, M) o := by
  refine e_r_aload_n (pc' := 1) (by decide) dX6_searchFor_0 rfl rfl rfl ?_
  refine e_r_iload_n (pc' := 2) dX6_searchFor_1 rfl rfl rfl ?_
  refine e_r_puti (k := 2) (pc' := 5) cl_6 rfl (Nat.le_of_ble_eq_true rfl) rfl rfl fl_RX6_9 rfl (by decide +kernel) dX6_searchFor_2 rfl ?_
  refine e_r_aload_n (pc' := 6) (by decide) dX6_searchFor_5 rfl rfl rfl ?_
  refine e_r_iload_n (pc' := 7) dX6_searchFor_6 rfl rfl rfl ?_
  refine e_r_bipush (pc' := 9) dX6_searchFor_7 rfl (by decide) ?_
  refine e_r_min (pc' := 12) lk_RX6_41 rfl dX6_searchFor_9 rfl ?_
  refine e_r_puti (k := 3) (pc' := 15) cl_6 rfl (Nat.le_of_ble_eq_true rfl) rfl rfl fl_RX6_15 rfl (by decide +kernel) dX6_searchFor_12 rfl ?_
  refine e_r_aload_n (pc' := 16) (by decide) dX6_searchFor_15 rfl rfl rfl ?_
  refine e_r_aload_n (pc' := 17) (by decide) dX6_searchFor_16 rfl rfl rfl ?_
  refine e_r_geti (k := 2) (pc' := 20) cl_3 rfl (Nat.le_of_ble_eq_true rfl) rfl rfl fl_RX6_47 dX6_searchFor_17 rfl ?_
  refine e_r_puti (k := 4) (pc' := 23) cl_6 rfl (Nat.le_of_ble_eq_true rfl) rfl rfl fl_RX6_18 rfl (by decide +kernel) dX6_searchFor_20 rfl ?_
  refine e_r_aload_n (pc' := 24) (by decide) dX6_searchFor_23 rfl rfl rfl ?_
  refine e_r_aload_n (pc' := 25) (by decide) dX6_searchFor_24 rfl rfl rfl ?_
  refine e_r_getr (k := 7) (q := 39) (pc' := 28) cl_3 rfl (Nat.le_of_ble_eq_true rfl) rfl rfl fl_RX6_50 rfl (Nat.le_of_ble_eq_true rfl) dX6_searchFor_25 rfl ?_
  refine e_r_iload_n (pc' := 29) dX6_searchFor_28 rfl rfl rfl ?_
  obtain ⟨hb1, h⟩ := h
  refine e_r_iald (j9 := p2.toNat) (pc' := 30) rfl (Nat.le_of_ble_eq_true rfl) hb1.1 hb1.2 rfl dX6_searchFor_29 rfl ?_
  refine e_r_puti (k := 5) (pc' := 33) cl_6 rfl (Nat.le_of_ble_eq_true rfl) rfl rfl fl_RX6_21 rfl (by decide +kernel) dX6_searchFor_30 rfl ?_
  refine e_r_aload_n (pc' := 34) (by decide) dX6_searchFor_33 rfl rfl rfl ?_
  refine e_r_aload_n (pc' := 35) (by decide) dX6_searchFor_34 rfl rfl rfl ?_
  refine e_r_iload_n (pc' := 36) dX6_searchFor_35 rfl rfl rfl ?_
  refine e_r_aload_n (pc' := 37) (by decide) dX6_searchFor_36 rfl rfl rfl ?_
  refine e_r_geti (k := 3) (pc' := 40) cl_6 rfl (Nat.le_of_ble_eq_true rfl) rfl rfl fl_RX6_15 dX6_searchFor_37 rfl ?_
  obtain ⟨r3, N2, he4, h⟩ := h
  refine e_r_callV (a := 36) (av := [.inl p2, .inl ((e_up (e_up (e_up (e_up M 53 2 p2) 53 3 (min p3 10)) 53 4 ((e_up (e_up M 53 2 p2) 53 3 (min p3 10)) 36 2)) 53 5 ((e_up (e_up (e_up M 53 2 p2) 53 3 (min p3 10)) 53 4 ((e_up (e_up M 53 2 p2) 53 3 (min p3 10)) 36 2)) 39 p2.toNat)) 53 3)]) (st := [.inr (.inr 53)]) mqYX3_busyBits ml_RX6_53 cl_3 rfl (Nat.le_of_ble_eq_true rfl) (by simp [e_cat]) rfl rfl rfl dX6_searchFor_40 (pc' := 43) rfl he4 ⟨Nat.le_refl _, Nat.le_refl _⟩ hmo ?_
  refine e_r_puti (k := 6) (pc' := 46) cl_6 rfl (Nat.le_of_ble_eq_true rfl) rfl rfl fl_RX6_24 rfl (by decide +kernel) dX6_searchFor_43 rfl ?_
  refine e_r_aload_n (pc' := 47) (by decide) dX6_searchFor_46 rfl rfl rfl ?_
  refine e_r_iconst (pc' := 48) dX6_searchFor_47 rfl (by decide) ?_
  refine e_r_puti (k := 7) (pc' := 51) cl_6 rfl (Nat.le_of_ble_eq_true rfl) rfl rfl fl_RX6_27 rfl (by decide +kernel) dX6_searchFor_48 rfl ?_
  refine e_r_aload_n (pc' := 52) (by decide) dX6_searchFor_51 rfl rfl rfl ?_
  refine e_r_iconst (pc' := 53) dX6_searchFor_52 rfl (by decide) ?_
  refine e_r_puti (k := 8) (pc' := 56) cl_6 rfl (Nat.le_of_ble_eq_true rfl) rfl rfl fl_RX6_30 rfl (by decide +kernel) dX6_searchFor_53 rfl ?_
  refine e_r_aload_n (pc' := 57) (by decide) dX6_searchFor_56 rfl rfl rfl ?_
  refine e_r_getr (k := 0) (q := 4) (pc' := 60) cl_6 rfl (Nat.le_of_ble_eq_true rfl) rfl rfl fl_RX6_33 rfl (Nat.le_of_ble_eq_true rfl) dX6_searchFor_57 rfl ?_
  refine e_r_geti (k := 0) (pc' := 63) cl_8 rfl (Nat.le_of_ble_eq_true rfl) rfl rfl fl_RX6_56 dX6_searchFor_60 rfl ?_
  obtain ⟨r6, N5, he7, h⟩ := h
  refine e_r_callSN (av := [.inl ((e_up (e_up (e_up N2 53 6 r3) 53 7 0) 53 8 0) 4 0)]) (st := []) mqYX10_bitsBelow nl_RX6_61 (by simp [e_cat]) rfl rfl rfl dX6_searchFor_63 (pc' := 66) rfl he7 ⟨Nat.le_refl _, Nat.le_refl _⟩ hmo ?_
  refine e_r_iconst (pc' := 67) dX6_searchFor_66 rfl (by decide) ?_
  refine e_r_iload_n (pc' := 68) dX6_searchFor_67 rfl rfl rfl ?_
  refine e_r_ishl (pc' := 69) dX6_searchFor_68 rfl ?_
  refine e_r_iconst (pc' := 70) dX6_searchFor_69 rfl (by decide) ?_
  refine e_r_ixor (pc' := 71) dX6_searchFor_70 rfl ?_
  refine e_r_iand (pc' := 72) dX6_searchFor_71 rfl ?_
  refine e_r_istore (pc' := 74) (loc' := [some (.inr (.inr 53)), some (.inr (.inr 36)), some (.inl p2), some (.inl p3), some (.inl (e_and r6 (e_xor (e_shl 1 p2) (-1)))), none]) dX6_searchFor_72 rfl rfl rfl rfl ?_
  refine e_r_aload_n (pc' := 75) (by decide) dX6_searchFor_74 rfl rfl rfl ?_
  refine e_r_getr (k := 1) (q := 20) (pc' := 78) cl_6 rfl (Nat.le_of_ble_eq_true rfl) rfl rfl fl_RX6_37 rfl (Nat.le_of_ble_eq_true rfl) dX6_searchFor_75 rfl ?_
  refine e_r_getr (k := 3) (q := 23) (pc' := 81) cl_2 rfl (Nat.le_of_ble_eq_true rfl) rfl rfl fl_RX6_65 rfl (Nat.le_of_ble_eq_true rfl) dX6_searchFor_78 rfl ?_
  refine e_r_astore (pc' := 83) (loc' := [some (.inr (.inr 53)), some (.inr (.inr 36)), some (.inl p2), some (.inl p3), some (.inl (e_and r6 (e_xor (e_shl 1 p2) (-1)))), some (.inr (.inr 23))]) (by decide) dX6_searchFor_81 rfl rfl rfl rfl ?_
  refine e_r_aload (pc' := 85) (by decide) dX6_searchFor_83 rfl rfl ?_
  refine e_r_iconst (pc' := 86) dX6_searchFor_85 rfl (by decide) ?_
  refine e_r_iconst (pc' := 87) dX6_searchFor_86 rfl (by decide) ?_
  refine e_r_iast (j9 := 1) (pc' := 88) rfl (Nat.le_of_ble_eq_true rfl) (by decide) (by decide) rfl dX6_searchFor_87 rfl ?_
  refine e_r_aload (pc' := 90) (by decide) dX6_searchFor_88 rfl rfl ?_
  refine e_r_iconst (pc' := 91) dX6_searchFor_90 rfl (by decide) ?_
  refine e_r_aload_n (pc' := 92) (by decide) dX6_searchFor_91 rfl rfl rfl ?_
  refine e_r_getr (k := 0) (q := 4) (pc' := 95) cl_6 rfl (Nat.le_of_ble_eq_true rfl) rfl rfl fl_RX6_33 rfl (Nat.le_of_ble_eq_true rfl) dX6_searchFor_92 rfl ?_
  refine e_r_getr (k := 4) (q := 6) (pc' := 98) cl_8 rfl (Nat.le_of_ble_eq_true rfl) rfl rfl fl_RX6_70 rfl (Nat.le_of_ble_eq_true rfl) dX6_searchFor_95 rfl ?_
  refine e_r_iload_n (pc' := 99) dX6_searchFor_98 rfl rfl rfl ?_
  obtain ⟨hb8, h⟩ := h
  refine e_r_iald (j9 := p2.toNat) (pc' := 100) rfl (Nat.le_of_ble_eq_true rfl) hb8.1 hb8.2 rfl dX6_searchFor_99 rfl ?_
  refine e_r_iast (j9 := 4) (pc' := 101) rfl (Nat.le_of_ble_eq_true rfl) (by decide) (by decide) rfl dX6_searchFor_100 rfl ?_
  refine e_r_aload (pc' := 103) (by decide) dX6_searchFor_101 rfl rfl ?_
  refine e_r_iconst (pc' := 104) dX6_searchFor_103 rfl (by decide) ?_
  refine e_r_aload_n (pc' := 105) (by decide) dX6_searchFor_104 rfl rfl rfl ?_
  refine e_r_getr (k := 0) (q := 4) (pc' := 108) cl_6 rfl (Nat.le_of_ble_eq_true rfl) rfl rfl fl_RX6_33 rfl (Nat.le_of_ble_eq_true rfl) dX6_searchFor_105 rfl ?_
  refine e_r_getr (k := 5) (q := 7) (pc' := 111) cl_8 rfl (Nat.le_of_ble_eq_true rfl) rfl rfl fl_RX6_73 rfl (Nat.le_of_ble_eq_true rfl) dX6_searchFor_108 rfl ?_
  refine e_r_iload_n (pc' := 112) dX6_searchFor_111 rfl rfl rfl ?_
  obtain ⟨hb9, h⟩ := h
  refine e_r_iald (j9 := p2.toNat) (pc' := 113) rfl (Nat.le_of_ble_eq_true rfl) hb9.1 hb9.2 rfl dX6_searchFor_112 rfl ?_
  refine e_r_aload_n (pc' := 114) (by decide) dX6_searchFor_113 rfl rfl rfl ?_
  refine e_r_getr (k := 0) (q := 4) (pc' := 117) cl_6 rfl (Nat.le_of_ble_eq_true rfl) rfl rfl fl_RX6_33 rfl (Nat.le_of_ble_eq_true rfl) dX6_searchFor_114 rfl ?_
  refine e_r_iload (pc' := 119) dX6_searchFor_117 rfl rfl ?_
  obtain ⟨r11, N10, he12, h⟩ := h
  refine e_r_callV (a := 4) (av := [.inl (e_and r6 (e_xor (e_shl 1 p2) (-1)))]) (st := [.inl ((e_up (e_up N5 23 1 0) 23 4 ((e_up N5 23 1 0) 6 p2.toNat)) 7 p2.toNat), .inl 5, .inr (.inr 23)]) mqYX8_skillsOf ml_RX6_76 cl_8 rfl (Nat.le_of_ble_eq_true rfl) (by simp [e_cat]) rfl rfl rfl dX6_searchFor_119 (pc' := 122) rfl he12 ⟨Nat.le_refl _, Nat.le_refl _⟩ hmo ?_
  refine e_r_iconst (pc' := 123) dX6_searchFor_122 rfl (by decide) ?_
  refine e_r_ixor (pc' := 124) dX6_searchFor_123 rfl ?_
  refine e_r_iand (pc' := 125) dX6_searchFor_124 rfl ?_
  obtain ⟨r14, N13, he15, h⟩ := h
  refine e_r_callS (av := [.inl (e_and ((e_up (e_up N5 23 1 0) 23 4 ((e_up N5 23 1 0) 6 p2.toNat)) 7 p2.toNat) (e_xor r11 (-1)))]) (st := [.inl 5, .inr (.inr 23)]) mqYJ6_bitCount_0f7a4 ml_RX6_79 (by simp [e_cat]) rfl rfl rfl dX6_searchFor_125 (pc' := 128) rfl he15 ⟨Nat.le_refl _, Nat.le_refl _⟩ hmo ?_
  refine e_r_iast (j9 := 5) (pc' := 129) rfl (Nat.le_of_ble_eq_true rfl) (by decide) (by decide) rfl dX6_searchFor_128 rfl ?_
  refine e_r_aload (pc' := 131) (by decide) dX6_searchFor_129 rfl rfl ?_
  refine e_r_bipush (pc' := 133) dX6_searchFor_131 rfl (by decide) ?_
  refine e_r_iconst (pc' := 134) dX6_searchFor_133 rfl (by decide) ?_
  refine e_r_iast (j9 := 6) (pc' := 135) rfl (Nat.le_of_ble_eq_true rfl) (by decide) (by decide) rfl dX6_searchFor_134 rfl ?_
  refine e_r_aload (pc' := 137) (by decide) dX6_searchFor_135 rfl rfl ?_
  refine e_r_bipush (pc' := 139) dX6_searchFor_137 rfl (by decide) ?_
  refine e_r_iload_n (pc' := 140) dX6_searchFor_139 rfl rfl rfl ?_
  refine e_r_iast (j9 := 7) (pc' := 141) rfl (Nat.le_of_ble_eq_true rfl) (by decide) (by decide) rfl dX6_searchFor_140 rfl ?_
  refine e_r_aload_n (pc' := 142) (by decide) dX6_searchFor_141 rfl rfl rfl ?_
  refine e_r_iconst (pc' := 143) dX6_searchFor_142 rfl (by decide) ?_
  refine e_r_iconst (pc' := 144) dX6_searchFor_143 rfl (by decide) ?_
  refine e_r_aload_n (pc' := 145) (by decide) dX6_searchFor_144 rfl rfl rfl ?_
  refine e_r_getr (k := 5) (q := 37) (pc' := 148) cl_3 rfl (Nat.le_of_ble_eq_true rfl) rfl rfl fl_RX6_84 rfl (Nat.le_of_ble_eq_true rfl) dX6_searchFor_145 rfl ?_
  refine e_r_iload_n (pc' := 149) dX6_searchFor_148 rfl rfl rfl ?_
  obtain ⟨hb16, h⟩ := h
  refine e_r_iald (j9 := p2.toNat) (pc' := 150) rfl (Nat.le_of_ble_eq_true rfl) hb16.1 hb16.2 rfl dX6_searchFor_149 rfl ?_
  obtain ⟨N17, he18, h⟩ := h
  refine e_r_callV (a := 53) (av := [.inl 0, .inl 0, .inl ((e_up (e_up (e_up N13 23 5 r14) 23 6 0) 23 7 p2) 37 p2.toNat)]) (st := []) mqYX6_searchFrom ml_RX6_87 cl_6 rfl (Nat.le_of_ble_eq_true rfl) (by simp [e_cat]) rfl rfl rfl dX6_searchFor_150 (pc' := 153) rfl he18 ⟨Nat.le_refl _, Nat.le_refl _⟩ hmo ?_
  exact e_r_vret rfl dX6_searchFor_153 h
theorem wp_X6_searchFrom_0 {X : e_X} {d gn : Nat} {o : e_O} (M : e_M) (p1 p2 p3 : Int) (hmo : e_mn (557, gn, e_RF, M) o.2) (h : ((p1 < (M 53 3) → ((0 ≤ (M 53 2) ∧ (M 53 2) < 6) ∧ (∃ N4 : e_M, e_E X d YX6_searchFrom [.inr (.inr 53), .inl (e_w (p1 + 1)), .inl p2, .inl (min 999 (e_w (p3 + (M 6 (M 53 2).toNat))))] (557, gn, e_RF, M) (.inl none, (557, gn, e_RF, N4)) ∧ (((e_and (e_shr (N4 53 6) p1) 1) = 0 → (∃ (r9 : Int) (N8 : e_M), e_E X d YJ6_bitCount_0f7a4 [.inl p2] (557, gn, e_RF, (e_up N4 23 0 (e_w ((N4 53 4) + p1)))) (.inl (some (.inl r9)), (557, gn, e_RF, N8)) ∧ (∃ (r12 : Int) (N11 : e_M), e_E X d YX2_priceOfSeen [.inr (.inr 20)] (557, gn, e_RF, (e_up (e_up N8 23 2 (e_w (((e_up N4 23 0 (e_w ((N4 53 4) + p1))) 53 5) + r9))) 23 3 p3)) (.inl (some (.inl r12)), (557, gn, e_RF, N11)) ∧ ((p3 < r12 → (o = (.inl none, (557, gn, e_RF, N11)))) ∧ (¬ (p3 < r12) → (∃ N16 : e_M, e_E X d YX6_searchFrom [.inr (.inr 53), .inl (e_w (p1 + 1)), .inl (e_or p2 (e_shl 1 p1)), .inl (e_w (p3 - r12))] (557, gn, e_RF, N11) (.inl none, (557, gn, e_RF, N16)) ∧ (o = (.inl none, (557, gn, e_RF, N16))))))))) ∧ (¬ ((e_and (e_shr (N4 53 6) p1) 1) = 0) → (o = (.inl none, (557, gn, e_RF, N4)))))))) ∧ (¬ (p1 < (M 53 3)) → (∃ N18 : e_M, e_E X d YX6_noteSet [.inr (.inr 53), .inl p2] (557, gn, e_RF, M) (.inl none, (557, gn, e_RF, N18)) ∧ (o = (.inl none, (557, gn, e_RF, N18))))))) : e_G X (d + 1) YX6_searchFrom 0 [some (.inr (.inr 53)), some (.inl p1), some (.inl p2), some (.inl p3), none, none] [] (557, gn, e_RF, M) o := by
  refine e_r_iload_n (pc' := 1) dX6_searchFrom_0 rfl rfl rfl ?_
  refine e_r_aload_n (pc' := 2) (by decide) dX6_searchFrom_1 rfl rfl rfl ?_
  refine e_r_geti (k := 3) (pc' := 5) cl_6 rfl (Nat.le_of_ble_eq_true rfl) rfl rfl fl_RX6_15 dX6_searchFrom_2 rfl ?_
  obtain ⟨ht1, hf2⟩ := h
  refine e_r_icmp_lt (tgt := 14) (pc' := 8) dX6_searchFrom_5 rfl rfl (fun c => ?_) (fun c => ?_)
  · have h := ht1 c
    refine e_r_aload_n (pc' := 15) (by decide) dX6_searchFrom_14 rfl rfl rfl ?_
    refine e_r_iload_n (pc' := 16) dX6_searchFrom_15 rfl rfl rfl ?_
    refine e_r_iconst (pc' := 17) dX6_searchFrom_16 rfl (by decide) ?_
    refine e_r_iadd (pc' := 18) dX6_searchFrom_17 rfl ?_
    refine e_r_iload_n (pc' := 19) dX6_searchFrom_18 rfl rfl rfl ?_
    refine e_r_sipush (pc' := 22) dX6_searchFrom_19 rfl (by decide) ?_
    refine e_r_iload_n (pc' := 23) dX6_searchFrom_22 rfl rfl rfl ?_
    refine e_r_aload_n (pc' := 24) (by decide) dX6_searchFrom_23 rfl rfl rfl ?_
    refine e_r_getr (k := 0) (q := 4) (pc' := 27) cl_6 rfl (Nat.le_of_ble_eq_true rfl) rfl rfl fl_RX6_33 rfl (Nat.le_of_ble_eq_true rfl) dX6_searchFrom_24 rfl ?_
    refine e_r_getr (k := 4) (q := 6) (pc' := 30) cl_8 rfl (Nat.le_of_ble_eq_true rfl) rfl rfl fl_RX6_70 rfl (Nat.le_of_ble_eq_true rfl) dX6_searchFrom_27 rfl ?_
    refine e_r_aload_n (pc' := 31) (by decide) dX6_searchFrom_30 rfl rfl rfl ?_
    refine e_r_geti (k := 2) (pc' := 34) cl_6 rfl (Nat.le_of_ble_eq_true rfl) rfl rfl fl_RX6_9 dX6_searchFrom_31 rfl ?_
    obtain ⟨hb3, h⟩ := h
    refine e_r_iald (j9 := (M 53 2).toNat) (pc' := 35) rfl (Nat.le_of_ble_eq_true rfl) hb3.1 hb3.2 rfl dX6_searchFrom_34 rfl ?_
    refine e_r_iadd (pc' := 36) dX6_searchFrom_35 rfl ?_
    refine e_r_min (pc' := 39) lk_RX6_41 rfl dX6_searchFrom_36 rfl ?_
    obtain ⟨N4, he5, h⟩ := h
    refine e_r_callV (a := 53) (av := [.inl (e_w (p1 + 1)), .inl p2, .inl (min 999 (e_w (p3 + (M 6 (M 53 2).toNat))))]) (st := []) mqYX6_searchFrom ml_RX6_87 cl_6 rfl (Nat.le_of_ble_eq_true rfl) (by simp [e_cat]) rfl rfl rfl dX6_searchFrom_39 (pc' := 42) rfl he5 ⟨Nat.le_refl _, Nat.le_refl _⟩ hmo ?_
    refine e_r_aload_n (pc' := 43) (by decide) dX6_searchFrom_42 rfl rfl rfl ?_
    refine e_r_geti (k := 6) (pc' := 46) cl_6 rfl (Nat.le_of_ble_eq_true rfl) rfl rfl fl_RX6_24 dX6_searchFrom_43 rfl ?_
    refine e_r_iload_n (pc' := 47) dX6_searchFrom_46 rfl rfl rfl ?_
    refine e_r_ishr (pc' := 48) dX6_searchFrom_47 rfl ?_
    refine e_r_iconst (pc' := 49) dX6_searchFrom_48 rfl (by decide) ?_
    refine e_r_iand (pc' := 50) dX6_searchFrom_49 rfl ?_
    obtain ⟨ht6, hf7⟩ := h
    refine e_r_if_eq (tgt := 54) (pc' := 53) dX6_searchFrom_50 rfl rfl (fun c => ?_) (fun c => ?_)
    · have h := ht6 c
      refine e_r_aload_n (pc' := 55) (by decide) dX6_searchFrom_54 rfl rfl rfl ?_
      refine e_r_getr (k := 1) (q := 20) (pc' := 58) cl_6 rfl (Nat.le_of_ble_eq_true rfl) rfl rfl fl_RX6_37 rfl (Nat.le_of_ble_eq_true rfl) dX6_searchFrom_55 rfl ?_
      refine e_r_getr (k := 3) (q := 23) (pc' := 61) cl_2 rfl (Nat.le_of_ble_eq_true rfl) rfl rfl fl_RX6_65 rfl (Nat.le_of_ble_eq_true rfl) dX6_searchFrom_58 rfl ?_
      refine e_r_astore (pc' := 63) (loc' := [some (.inr (.inr 53)), some (.inl p1), some (.inl p2), some (.inl p3), some (.inr (.inr 23)), none]) (by decide) dX6_searchFrom_61 rfl rfl rfl rfl ?_
      refine e_r_aload (pc' := 65) (by decide) dX6_searchFrom_63 rfl rfl ?_
      refine e_r_iconst (pc' := 66) dX6_searchFrom_65 rfl (by decide) ?_
      refine e_r_aload_n (pc' := 67) (by decide) dX6_searchFrom_66 rfl rfl rfl ?_
      refine e_r_geti (k := 4) (pc' := 70) cl_6 rfl (Nat.le_of_ble_eq_true rfl) rfl rfl fl_RX6_18 dX6_searchFrom_67 rfl ?_
      refine e_r_iload_n (pc' := 71) dX6_searchFrom_70 rfl rfl rfl ?_
      refine e_r_iadd (pc' := 72) dX6_searchFrom_71 rfl ?_
      refine e_r_iast (j9 := 0) (pc' := 73) rfl (Nat.le_of_ble_eq_true rfl) (by decide) (by decide) rfl dX6_searchFrom_72 rfl ?_
      refine e_r_aload (pc' := 75) (by decide) dX6_searchFrom_73 rfl rfl ?_
      refine e_r_iconst (pc' := 76) dX6_searchFrom_75 rfl (by decide) ?_
      refine e_r_aload_n (pc' := 77) (by decide) dX6_searchFrom_76 rfl rfl rfl ?_
      refine e_r_geti (k := 5) (pc' := 80) cl_6 rfl (Nat.le_of_ble_eq_true rfl) rfl rfl fl_RX6_21 dX6_searchFrom_77 rfl ?_
      refine e_r_iload_n (pc' := 81) dX6_searchFrom_80 rfl rfl rfl ?_
      obtain ⟨r9, N8, he10, h⟩ := h
      refine e_r_callS (av := [.inl p2]) (st := [.inl ((e_up N4 23 0 (e_w ((N4 53 4) + p1))) 53 5), .inl 2, .inr (.inr 23)]) mqYJ6_bitCount_0f7a4 ml_RX6_79 (by simp [e_cat]) rfl rfl rfl dX6_searchFrom_81 (pc' := 84) rfl he10 ⟨Nat.le_refl _, Nat.le_refl _⟩ hmo ?_
      refine e_r_iadd (pc' := 85) dX6_searchFrom_84 rfl ?_
      refine e_r_iast (j9 := 2) (pc' := 86) rfl (Nat.le_of_ble_eq_true rfl) (by decide) (by decide) rfl dX6_searchFrom_85 rfl ?_
      refine e_r_aload (pc' := 88) (by decide) dX6_searchFrom_86 rfl rfl ?_
      refine e_r_iconst (pc' := 89) dX6_searchFrom_88 rfl (by decide) ?_
      refine e_r_iload_n (pc' := 90) dX6_searchFrom_89 rfl rfl rfl ?_
      refine e_r_iast (j9 := 3) (pc' := 91) rfl (Nat.le_of_ble_eq_true rfl) (by decide) (by decide) rfl dX6_searchFrom_90 rfl ?_
      refine e_r_aload_n (pc' := 92) (by decide) dX6_searchFrom_91 rfl rfl rfl ?_
      refine e_r_getr (k := 1) (q := 20) (pc' := 95) cl_6 rfl (Nat.le_of_ble_eq_true rfl) rfl rfl fl_RX6_37 rfl (Nat.le_of_ble_eq_true rfl) dX6_searchFrom_92 rfl ?_
      obtain ⟨r12, N11, he13, h⟩ := h
      refine e_r_callV (a := 20) (av := []) (st := []) mqYX2_priceOfSeen ml_RX6_95 cl_2 rfl (Nat.le_of_ble_eq_true rfl) (by simp [e_cat]) rfl rfl rfl dX6_searchFrom_95 (pc' := 98) rfl he13 ⟨Nat.le_refl _, Nat.le_refl _⟩ hmo ?_
      refine e_r_istore (pc' := 100) (loc' := [some (.inr (.inr 53)), some (.inl p1), some (.inl p2), some (.inl p3), some (.inr (.inr 23)), some (.inl r12)]) dX6_searchFrom_98 rfl rfl rfl rfl ?_
      refine e_r_iload (pc' := 102) dX6_searchFrom_100 rfl rfl ?_
      refine e_r_iload_n (pc' := 103) dX6_searchFrom_102 rfl rfl rfl ?_
      obtain ⟨ht14, hf15⟩ := h
      refine e_r_icmp_gt (tgt := 122) (pc' := 106) dX6_searchFrom_103 rfl rfl (fun c => ?_) (fun c => ?_)
      · have h := ht14 c
        exact e_r_vret rfl dX6_searchFrom_122 h
      · have h := hf15 c
        refine e_r_aload_n (pc' := 107) (by decide) dX6_searchFrom_106 rfl rfl rfl ?_
        refine e_r_iload_n (pc' := 108) dX6_searchFrom_107 rfl rfl rfl ?_
        refine e_r_iconst (pc' := 109) dX6_searchFrom_108 rfl (by decide) ?_
        refine e_r_iadd (pc' := 110) dX6_searchFrom_109 rfl ?_
        refine e_r_iload_n (pc' := 111) dX6_searchFrom_110 rfl rfl rfl ?_
        refine e_r_iconst (pc' := 112) dX6_searchFrom_111 rfl (by decide) ?_
        refine e_r_iload_n (pc' := 113) dX6_searchFrom_112 rfl rfl rfl ?_
        refine e_r_ishl (pc' := 114) dX6_searchFrom_113 rfl ?_
        refine e_r_ior (pc' := 115) dX6_searchFrom_114 rfl ?_
        refine e_r_iload_n (pc' := 116) dX6_searchFrom_115 rfl rfl rfl ?_
        refine e_r_iload (pc' := 118) dX6_searchFrom_116 rfl rfl ?_
        refine e_r_isub (pc' := 119) dX6_searchFrom_118 rfl ?_
        obtain ⟨N16, he17, h⟩ := h
        refine e_r_callV (a := 53) (av := [.inl (e_w (p1 + 1)), .inl (e_or p2 (e_shl 1 p1)), .inl (e_w (p3 - r12))]) (st := []) mqYX6_searchFrom ml_RX6_87 cl_6 rfl (Nat.le_of_ble_eq_true rfl) (by simp [e_cat]) rfl rfl rfl dX6_searchFrom_119 (pc' := 122) rfl he17 ⟨Nat.le_refl _, Nat.le_refl _⟩ hmo ?_
        exact e_r_vret rfl dX6_searchFrom_122 h
    · have h := hf7 c
      exact e_r_vret rfl dX6_searchFrom_53 h
  · have h := hf2 c
    refine e_r_aload_n (pc' := 9) (by decide) dX6_searchFrom_8 rfl rfl rfl ?_
    refine e_r_iload_n (pc' := 10) dX6_searchFrom_9 rfl rfl rfl ?_
    obtain ⟨N18, he19, h⟩ := h
    refine e_r_callV (a := 53) (av := [.inl p2]) (st := []) mqYX6_noteSet ml_RX6_91 cl_6 rfl (Nat.le_of_ble_eq_true rfl) (by simp [e_cat]) rfl rfl rfl dX6_searchFrom_10 (pc' := 13) rfl he19 ⟨Nat.le_refl _, Nat.le_refl _⟩ hmo ?_
    exact e_r_vret rfl dX6_searchFrom_13 h
theorem wp_X6_noteSet_0 {X : e_X} {d gn : Nat} {o : e_O} (M : e_M) (p1 : Int) (hmo : e_mn (557, gn, e_RF, M) o.2) (h : (∃ (r2 : Int) (N1 : e_M), e_E X d YJ6_bitCount_0f7a4 [.inl p1] (557, gn, e_RF, M) (.inl (some (.inl r2)), (557, gn, e_RF, N1)) ∧ (((N1 53 7) < r2 → (o = (.inl none, (557, gn, e_RF, (e_up (e_up N1 53 7 r2) 53 8 p1))))) ∧ (¬ ((N1 53 7) < r2) → ((¬ r2 = (N1 53 7) → (o = (.inl none, (557, gn, e_RF, N1)))) ∧ (r2 = (N1 53 7) → (((N1 53 8) ≤ p1 → (o = (.inl none, (557, gn, e_RF, N1)))) ∧ (¬ ((N1 53 8) ≤ p1) → (o = (.inl none, (557, gn, e_RF, (e_up (e_up N1 53 7 r2) 53 8 p1)))))))))))) : e_G X (d + 1) YX6_noteSet 0 [some (.inr (.inr 53)), some (.inl p1), none] [] (557, gn, e_RF, M) o := by
  refine e_r_iload_n (pc' := 1) dX6_noteSet_0 rfl rfl rfl ?_
  obtain ⟨r2, N1, he3, h⟩ := h
  refine e_r_callS (av := [.inl p1]) (st := []) mqYJ6_bitCount_0f7a4 ml_RX6_79 (by simp [e_cat]) rfl rfl rfl dX6_noteSet_1 (pc' := 4) rfl he3 ⟨Nat.le_refl _, Nat.le_refl _⟩ hmo ?_
  refine e_r_istore_n (pc' := 5) (loc' := [some (.inr (.inr 53)), some (.inl p1), some (.inl r2)]) dX6_noteSet_4 rfl rfl rfl rfl rfl ?_
  refine e_r_iload_n (pc' := 6) dX6_noteSet_5 rfl rfl rfl ?_
  refine e_r_aload_n (pc' := 7) (by decide) dX6_noteSet_6 rfl rfl rfl ?_
  refine e_r_geti (k := 7) (pc' := 10) cl_6 rfl (Nat.le_of_ble_eq_true rfl) rfl rfl fl_RX6_27 dX6_noteSet_7 rfl ?_
  obtain ⟨ht4, hf5⟩ := h
  refine e_r_icmp_gt (tgt := 29) (pc' := 13) dX6_noteSet_10 rfl rfl (fun c => ?_) (fun c => ?_)
  · have h := ht4 c
    refine e_r_aload_n (pc' := 30) (by decide) dX6_noteSet_29 rfl rfl rfl ?_
    refine e_r_iload_n (pc' := 31) dX6_noteSet_30 rfl rfl rfl ?_
    refine e_r_puti (k := 7) (pc' := 34) cl_6 rfl (Nat.le_of_ble_eq_true rfl) rfl rfl fl_RX6_27 rfl (by decide +kernel) dX6_noteSet_31 rfl ?_
    refine e_r_aload_n (pc' := 35) (by decide) dX6_noteSet_34 rfl rfl rfl ?_
    refine e_r_iload_n (pc' := 36) dX6_noteSet_35 rfl rfl rfl ?_
    refine e_r_puti (k := 8) (pc' := 39) cl_6 rfl (Nat.le_of_ble_eq_true rfl) rfl rfl fl_RX6_30 rfl (by decide +kernel) dX6_noteSet_36 rfl ?_
    exact e_r_vret rfl dX6_noteSet_39 h
  · have h := hf5 c
    refine e_r_iload_n (pc' := 14) dX6_noteSet_13 rfl rfl rfl ?_
    refine e_r_aload_n (pc' := 15) (by decide) dX6_noteSet_14 rfl rfl rfl ?_
    refine e_r_geti (k := 7) (pc' := 18) cl_6 rfl (Nat.le_of_ble_eq_true rfl) rfl rfl fl_RX6_27 dX6_noteSet_15 rfl ?_
    obtain ⟨ht6, hf7⟩ := h
    refine e_r_icmp_ne (tgt := 39) (pc' := 21) dX6_noteSet_18 rfl rfl (fun c => ?_) (fun c => ?_)
    · have h := ht6 c
      exact e_r_vret rfl dX6_noteSet_39 h
    · have h := hf7 c
      refine e_r_iload_n (pc' := 22) dX6_noteSet_21 rfl rfl rfl ?_
      refine e_r_aload_n (pc' := 23) (by decide) dX6_noteSet_22 rfl rfl rfl ?_
      refine e_r_geti (k := 8) (pc' := 26) cl_6 rfl (Nat.le_of_ble_eq_true rfl) rfl rfl fl_RX6_30 dX6_noteSet_23 rfl ?_
      obtain ⟨ht8, hf9⟩ := h
      refine e_r_icmp_ge (tgt := 39) (pc' := 29) dX6_noteSet_26 rfl rfl (fun c => ?_) (fun c => ?_)
      · have h := ht8 c
        exact e_r_vret rfl dX6_noteSet_39 h
      · have h := hf9 c
        refine e_r_aload_n (pc' := 30) (by decide) dX6_noteSet_29 rfl rfl rfl ?_
        refine e_r_iload_n (pc' := 31) dX6_noteSet_30 rfl rfl rfl ?_
        refine e_r_puti (k := 7) (pc' := 34) cl_6 rfl (Nat.le_of_ble_eq_true rfl) rfl rfl fl_RX6_27 rfl (by decide +kernel) dX6_noteSet_31 rfl ?_
        refine e_r_aload_n (pc' := 35) (by decide) dX6_noteSet_34 rfl rfl rfl ?_
        refine e_r_iload_n (pc' := 36) dX6_noteSet_35 rfl rfl rfl ?_
        refine e_r_puti (k := 8) (pc' := 39) cl_6 rfl (Nat.le_of_ble_eq_true rfl) rfl rfl fl_RX6_30 rfl (by decide +kernel) dX6_noteSet_36 rfl ?_
        exact e_r_vret rfl dX6_noteSet_39 h
