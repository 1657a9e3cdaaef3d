theorem wp_X11_givesFrom_27 {X : e_X} {d gn : Nat} {o : e_O} (M : e_M) (p1 p2 p3 v4 : Int) (h : ((p1 ≤ v4 → (o = (.inl none, (557, gn, e_RF, M)))) ∧ (¬ (p1 ≤ v4) → ((0 ≤ v4 ∧ v4 < 6) ∧ ((0 ≤ v4 ∧ v4 < 6) ∧ e_G X (d + 1) YX11_givesFrom 27 [some (.inr (.inr 64)), some (.inl p1), some (.inl p2), some (.inl p3), some (.inl (e_w (v4 + 1)))] [] (557, gn, e_RF, (e_up M 556 v4.toNat (M 555 v4.toNat))) o))))) : e_G X (d + 1) YX11_givesFrom 27 [some (.inr (.inr 64)), some (.inl p1), some (.inl p2), some (.inl p3), some (.inl v4)] [] (557, gn, e_RF, M) o := by
  refine e_r_iload (pc' := 29) dX11_givesFrom_27 rfl rfl ?_
  refine e_r_iload_n (pc' := 30) dX11_givesFrom_29 rfl rfl rfl ?_
  obtain ⟨ht1, hf2⟩ := h
  refine e_r_icmp_ge (tgt := 53) (pc' := 33) dX11_givesFrom_30 rfl rfl (fun c => ?_) (fun c => ?_)
  · have h := ht1 c
    exact e_r_vret rfl dX11_givesFrom_53 h
  · have h := hf2 c
    refine e_r_aload_n (pc' := 34) (by decide) dX11_givesFrom_33 rfl rfl rfl ?_
    refine e_r_getr (k := 43) (q := 556) (pc' := 37) cl_11 rfl (Nat.le_of_ble_eq_true rfl) rfl rfl fl_RX11_88 rfl (Nat.le_of_ble_eq_true rfl) dX11_givesFrom_34 rfl ?_
    refine e_r_iload (pc' := 39) dX11_givesFrom_37 rfl rfl ?_
    refine e_r_aload_n (pc' := 40) (by decide) dX11_givesFrom_39 rfl rfl rfl ?_
    refine e_r_getr (k := 42) (q := 555) (pc' := 43) cl_11 rfl (Nat.le_of_ble_eq_true rfl) rfl rfl fl_RX11_85 rfl (Nat.le_of_ble_eq_true rfl) dX11_givesFrom_40 rfl ?_
    refine e_r_iload (pc' := 45) dX11_givesFrom_43 rfl rfl ?_
    obtain ⟨hb3, h⟩ := h
    refine e_r_iald (j9 := v4.toNat) (pc' := 46) rfl (Nat.le_of_ble_eq_true rfl) hb3.1 hb3.2 rfl dX11_givesFrom_45 rfl ?_
    obtain ⟨hb4, h⟩ := h
    refine e_r_iast (j9 := v4.toNat) (pc' := 47) rfl (Nat.le_of_ble_eq_true rfl) hb4.1 hb4.2 rfl dX11_givesFrom_46 rfl ?_
    refine e_r_iinc (pc' := 50) (loc' := [some (.inr (.inr 64)), some (.inl p1), some (.inl p2), some (.inl p3), some (.inl (e_w (v4 + 1)))]) dX11_givesFrom_47 rfl rfl rfl rfl rfl ?_
    refine e_r_goto (pc' := 27) dX11_givesFrom_50 rfl ?_
    exact h
theorem wp_X11_givesFrom_57 {X : e_X} {d gn : Nat} {o : e_O} (M : e_M) (p1 p2 p3 v4 : Int) (hmo : e_mn (557, gn, e_RF, M) o.2) (h : (((M 68 0) ≤ v4 → ((0 ≤ p1 ∧ p1 < 6) ∧ (∃ N4 : e_M, e_E X d YX11_givesFrom [.inr (.inr 64), .inl (e_w (p1 + 1)), .inl p2, .inl p3] (557, gn, e_RF, (e_up M 555 p1.toNat (-1))) (.inl none, (557, gn, e_RF, N4)) ∧ (o = (.inl none, (557, gn, e_RF, N4)))))) ∧ (¬ ((M 68 0) ≤ v4) → (∃ (r7 : Int) (N6 : e_M), e_E X d YX11_has [.inl p2, .inl v4] (557, gn, e_RF, M) (.inl (some (.inl r7)), (557, gn, e_RF, N6)) ∧ ((¬ r7 = 0 → e_G X (d + 1) YX11_givesFrom 57 [some (.inr (.inr 64)), some (.inl p1), some (.inl p2), some (.inl p3), some (.inl (e_w (v4 + 1)))] [] (557, gn, e_RF, N6) o) ∧ (r7 = 0 → (∃ (r12 : Int) (N11 : e_M), e_E X d YX11_isSold [.inr (.inr 532), .inl v4] (557, gn, e_RF, N6) (.inl (some (.inl r12)), (557, gn, e_RF, N11)) ∧ ((¬ r12 = 0 → e_G X (d + 1) YX11_givesFrom 57 [some (.inr (.inr 64)), some (.inl p1), some (.inl p2), some (.inl p3), some (.inl (e_w (v4 + 1)))] [] (557, gn, e_RF, N11) o) ∧ (r12 = 0 → ((0 ≤ v4 ∧ v4 < 6) ∧ (∃ (r18 : Int) (N17 : e_M), e_E X d YX11_has [.inl (N11 72 v4.toNat), .inl p1] (557, gn, e_RF, N11) (.inl (some (.inl r18)), (557, gn, e_RF, N17)) ∧ ((¬ r18 = 0 → ((0 ≤ p1 ∧ p1 < 6) ∧ ((0 ≤ p1 ∧ p1 < 6) ∧ (∃ N24 : e_M, e_E X d YX11_givesFrom [.inr (.inr 64), .inl (e_w (p1 + 1)), .inl (e_or p2 (e_shl 1 v4)), .inl (e_w (p3 + ((e_up N17 555 p1.toNat v4) 70 p1.toNat)))] (557, gn, e_RF, (e_up N17 555 p1.toNat v4)) (.inl none, (557, gn, e_RF, N24)) ∧ e_G X (d + 1) YX11_givesFrom 57 [some (.inr (.inr 64)), some (.inl p1), some (.inl p2), some (.inl p3), some (.inl (e_w (v4 + 1)))] [] (557, gn, e_RF, N24) o)))) ∧ (r18 = 0 → e_G X (d + 1) YX11_givesFrom 57 [some (.inr (.inr 64)), some (.inl p1), some (.inl p2), some (.inl p3), some (.inl (e_w (v4 + 1)))] [] (557, gn, e_RF, N17) o))))))))))))) : e_G X (d + 1) YX11_givesFrom 57 [some (.inr (.inr 64)), some (.inl p1), some (.inl p2), some (.inl p3), some (.inl v4)] [] (557, gn, e_RF, M) o := by
  refine e_r_iload (pc' := 59) dX11_givesFrom_57 rfl rfl ?_
  refine e_r_aload_n (pc' := 60) (by decide) dX11_givesFrom_59 rfl rfl rfl ?_
  refine e_r_getr (k := 12) (q := 68) (pc' := 63) cl_11 rfl (Nat.le_of_ble_eq_true rfl) rfl rfl fl_RX11_23 rfl (Nat.le_of_ble_eq_true rfl) dX11_givesFrom_60 rfl ?_
  refine e_r_iconst (pc' := 64) dX11_givesFrom_63 rfl (by decide) ?_
  refine e_r_iald (j9 := 0) (pc' := 65) rfl (Nat.le_of_ble_eq_true rfl) (by decide) (by decide) rfl dX11_givesFrom_64 rfl ?_
  obtain ⟨ht1, hf2⟩ := h
  refine e_r_icmp_ge (tgt := 141) (pc' := 68) dX11_givesFrom_65 rfl rfl (fun c => ?_) (fun c => ?_)
  · have h := ht1 c
    refine e_r_aload_n (pc' := 142) (by decide) dX11_givesFrom_141 rfl rfl rfl ?_
    refine e_r_getr (k := 42) (q := 555) (pc' := 145) cl_11 rfl (Nat.le_of_ble_eq_true rfl) rfl rfl fl_RX11_85 rfl (Nat.le_of_ble_eq_true rfl) dX11_givesFrom_142 rfl ?_
    refine e_r_iload_n (pc' := 146) dX11_givesFrom_145 rfl rfl rfl ?_
    refine e_r_iconst (pc' := 147) dX11_givesFrom_146 rfl (by decide) ?_
    obtain ⟨hb3, h⟩ := h
    refine e_r_iast (j9 := p1.toNat) (pc' := 148) rfl (Nat.le_of_ble_eq_true rfl) hb3.1 hb3.2 rfl dX11_givesFrom_147 rfl ?_
    refine e_r_aload_n (pc' := 149) (by decide) dX11_givesFrom_148 rfl rfl rfl ?_
    refine e_r_iload_n (pc' := 150) dX11_givesFrom_149 rfl rfl rfl ?_
    refine e_r_iconst (pc' := 151) dX11_givesFrom_150 rfl (by decide) ?_
    refine e_r_iadd (pc' := 152) dX11_givesFrom_151 rfl ?_
    refine e_r_iload_n (pc' := 153) dX11_givesFrom_152 rfl rfl rfl ?_
    refine e_r_iload_n (pc' := 154) dX11_givesFrom_153 rfl rfl rfl ?_
    obtain ⟨N4, he5, h⟩ := h
    refine e_r_callV (a := 64) (av := [.inl (e_w (p1 + 1)), .inl p2, .inl p3]) (st := []) mqYX11_givesFrom ml_RX11_331 cl_11 rfl (Nat.le_of_ble_eq_true rfl) (by simp [e_cat]) rfl rfl rfl dX11_givesFrom_154 (pc' := 157) rfl he5 ⟨Nat.le_refl _, Nat.le_refl _⟩ hmo ?_
    exact e_r_vret rfl dX11_givesFrom_157 h
  · have h := hf2 c
    refine e_r_iload_n (pc' := 69) dX11_givesFrom_68 rfl rfl rfl ?_
    refine e_r_iload (pc' := 71) dX11_givesFrom_69 rfl rfl ?_
    obtain ⟨r7, N6, he8, h⟩ := h
    refine e_r_callS (av := [.inl p2, .inl v4]) (st := []) mqYX11_has ml_RX11_255 (by simp [e_cat]) rfl rfl rfl dX11_givesFrom_71 (pc' := 74) rfl he8 ⟨Nat.le_refl _, Nat.le_refl _⟩ hmo ?_
    obtain ⟨ht9, hf10⟩ := h
    refine e_r_if_ne (tgt := 135) (pc' := 77) dX11_givesFrom_74 rfl rfl (fun c => ?_) (fun c => ?_)
    · have h := ht9 c
      refine e_r_iinc (pc' := 138) (loc' := [some (.inr (.inr 64)), some (.inl p1), some (.inl p2), some (.inl p3), some (.inl (e_w (v4 + 1)))]) dX11_givesFrom_135 rfl rfl rfl rfl rfl ?_
      refine e_r_goto (pc' := 57) dX11_givesFrom_138 rfl ?_
      exact h
    · have h := hf10 c
      refine e_r_aload_n (pc' := 78) (by decide) dX11_givesFrom_77 rfl rfl rfl ?_
      refine e_r_getr (k := 31) (q := 532) (pc' := 81) cl_11 rfl (Nat.le_of_ble_eq_true rfl) rfl rfl fl_RX11_73 rfl (Nat.le_of_ble_eq_true rfl) dX11_givesFrom_78 rfl ?_
      refine e_r_iload (pc' := 83) dX11_givesFrom_81 rfl rfl ?_
      obtain ⟨r12, N11, he13, h⟩ := h
      refine e_r_callS (av := [.inr (.inr 532), .inl v4]) (st := []) mqYX11_isSold ml_RX11_261 (by simp [e_cat]) rfl rfl rfl dX11_givesFrom_83 (pc' := 86) rfl he13 ⟨Nat.le_refl _, Nat.le_refl _⟩ hmo ?_
      obtain ⟨ht14, hf15⟩ := h
      refine e_r_if_ne (tgt := 135) (pc' := 89) dX11_givesFrom_86 rfl rfl (fun c => ?_) (fun c => ?_)
      · have h := ht14 c
        refine e_r_iinc (pc' := 138) (loc' := [some (.inr (.inr 64)), some (.inl p1), some (.inl p2), some (.inl p3), some (.inl (e_w (v4 + 1)))]) dX11_givesFrom_135 rfl rfl rfl rfl rfl ?_
        refine e_r_goto (pc' := 57) dX11_givesFrom_138 rfl ?_
        exact h
      · have h := hf15 c
        refine e_r_aload_n (pc' := 90) (by decide) dX11_givesFrom_89 rfl rfl rfl ?_
        refine e_r_getr (k := 16) (q := 72) (pc' := 93) cl_11 rfl (Nat.le_of_ble_eq_true rfl) rfl rfl fl_RX11_35 rfl (Nat.le_of_ble_eq_true rfl) dX11_givesFrom_90 rfl ?_
        refine e_r_iload (pc' := 95) dX11_givesFrom_93 rfl rfl ?_
        obtain ⟨hb16, h⟩ := h
        refine e_r_iald (j9 := v4.toNat) (pc' := 96) rfl (Nat.le_of_ble_eq_true rfl) hb16.1 hb16.2 rfl dX11_givesFrom_95 rfl ?_
        refine e_r_iload_n (pc' := 97) dX11_givesFrom_96 rfl rfl rfl ?_
        obtain ⟨r18, N17, he19, h⟩ := h
        refine e_r_callS (av := [.inl (N11 72 v4.toNat), .inl p1]) (st := []) mqYX11_has ml_RX11_255 (by simp [e_cat]) rfl rfl rfl dX11_givesFrom_97 (pc' := 100) rfl he19 ⟨Nat.le_refl _, Nat.le_refl _⟩ hmo ?_
        obtain ⟨ht20, hf21⟩ := h
        refine e_r_if_ne (tgt := 106) (pc' := 103) dX11_givesFrom_100 rfl rfl (fun c => ?_) (fun c => ?_)
        · have h := ht20 c
          refine e_r_aload_n (pc' := 107) (by decide) dX11_givesFrom_106 rfl rfl rfl ?_
          refine e_r_getr (k := 42) (q := 555) (pc' := 110) cl_11 rfl (Nat.le_of_ble_eq_true rfl) rfl rfl fl_RX11_85 rfl (Nat.le_of_ble_eq_true rfl) dX11_givesFrom_107 rfl ?_
          refine e_r_iload_n (pc' := 111) dX11_givesFrom_110 rfl rfl rfl ?_
          refine e_r_iload (pc' := 113) dX11_givesFrom_111 rfl rfl ?_
          obtain ⟨hb22, h⟩ := h
          refine e_r_iast (j9 := p1.toNat) (pc' := 114) rfl (Nat.le_of_ble_eq_true rfl) hb22.1 hb22.2 rfl dX11_givesFrom_113 rfl ?_
          refine e_r_aload_n (pc' := 115) (by decide) dX11_givesFrom_114 rfl rfl rfl ?_
          refine e_r_iload_n (pc' := 116) dX11_givesFrom_115 rfl rfl rfl ?_
          refine e_r_iconst (pc' := 117) dX11_givesFrom_116 rfl (by decide) ?_
          refine e_r_iadd (pc' := 118) dX11_givesFrom_117 rfl ?_
          refine e_r_iload_n (pc' := 119) dX11_givesFrom_118 rfl rfl rfl ?_
          refine e_r_iconst (pc' := 120) dX11_givesFrom_119 rfl (by decide) ?_
          refine e_r_iload (pc' := 122) dX11_givesFrom_120 rfl rfl ?_
          refine e_r_ishl (pc' := 123) dX11_givesFrom_122 rfl ?_
          refine e_r_ior (pc' := 124) dX11_givesFrom_123 rfl ?_
          refine e_r_iload_n (pc' := 125) dX11_givesFrom_124 rfl rfl rfl ?_
          refine e_r_aload_n (pc' := 126) (by decide) dX11_givesFrom_125 rfl rfl rfl ?_
          refine e_r_getr (k := 14) (q := 70) (pc' := 129) cl_11 rfl (Nat.le_of_ble_eq_true rfl) rfl rfl fl_RX11_29 rfl (Nat.le_of_ble_eq_true rfl) dX11_givesFrom_126 rfl ?_
          refine e_r_iload_n (pc' := 130) dX11_givesFrom_129 rfl rfl rfl ?_
          obtain ⟨hb23, h⟩ := h
          refine e_r_iald (j9 := p1.toNat) (pc' := 131) rfl (Nat.le_of_ble_eq_true rfl) hb23.1 hb23.2 rfl dX11_givesFrom_130 rfl ?_
          refine e_r_iadd (pc' := 132) dX11_givesFrom_131 rfl ?_
          obtain ⟨N24, he25, h⟩ := h
          refine e_r_callV (a := 64) (av := [.inl (e_w (p1 + 1)), .inl (e_or p2 (e_shl 1 v4)), .inl (e_w (p3 + ((e_up N17 555 p1.toNat v4) 70 p1.toNat)))]) (st := []) mqYX11_givesFrom ml_RX11_331 cl_11 rfl (Nat.le_of_ble_eq_true rfl) (by simp [e_cat]) rfl rfl rfl dX11_givesFrom_132 (pc' := 135) rfl he25 ⟨Nat.le_refl _, Nat.le_refl _⟩ hmo ?_
          refine e_r_iinc (pc' := 138) (loc' := [some (.inr (.inr 64)), some (.inl p1), some (.inl p2), some (.inl p3), some (.inl (e_w (v4 + 1)))]) dX11_givesFrom_135 rfl rfl rfl rfl rfl ?_
          refine e_r_goto (pc' := 57) dX11_givesFrom_138 rfl ?_
          exact h
        · have h := hf21 c
          refine e_r_goto (pc' := 135) dX11_givesFrom_103 rfl ?_
          refine e_r_iinc (pc' := 138) (loc' := [some (.inr (.inr 64)), some (.inl p1), some (.inl p2), some (.inl p3), some (.inl (e_w (v4 + 1)))]) dX11_givesFrom_135 rfl rfl rfl rfl rfl ?_
          refine e_r_goto (pc' := 57) dX11_givesFrom_138 rfl ?_
          exact h
theorem wp_X11_given_0 {X : e_X} {d gn : Nat} {o : e_O} (M : e_M) (hmo : e_mn (557, gn, e_RF, M) o.2) (h : (∃ N1 : e_M, e_E X d YX11_givesFrom [.inr (.inr 64), .inl 0, .inl 0, .inl 0] (557, gn, e_RF, (e_up (e_up M 64 0 0) 64 44 (-1))) (.inl none, (557, gn, e_RF, N1)) ∧ (o = (.inl (some (.inl (N1 64 44))), (557, gn, e_RF, N1))))) : e_G X (d + 1) YX11_given 0 [some (.inr (.inr 64))] [] (557, gn, e_RF, M) o := by
  refine e_r_aload_n (pc' := 1) (by decide) dX11_given_0 rfl rfl rfl ?_
  refine e_r_iconst (pc' := 2) dX11_given_1 rfl (by decide) ?_
  refine e_r_puti (k := 0) (pc' := 5) cl_11 rfl (Nat.le_of_ble_eq_true rfl) rfl rfl fl_RX11_97 rfl (by decide +kernel) dX11_given_2 rfl ?_
  refine e_r_aload_n (pc' := 6) (by decide) dX11_given_5 rfl rfl rfl ?_
  refine e_r_iconst (pc' := 7) dX11_given_6 rfl (by decide) ?_
  refine e_r_puti (k := 44) (pc' := 10) cl_11 rfl (Nat.le_of_ble_eq_true rfl) rfl rfl fl_RX11_328 rfl (by decide +kernel) dX11_given_7 rfl ?_
  refine e_r_aload_n (pc' := 11) (by decide) dX11_given_10 rfl rfl rfl ?_
  refine e_r_iconst (pc' := 12) dX11_given_11 rfl (by decide) ?_
  refine e_r_iconst (pc' := 13) dX11_given_12 rfl (by decide) ?_
  refine e_r_iconst (pc' := 14) dX11_given_13 rfl (by decide) ?_
  obtain ⟨N1, he2, h⟩ := h
  refine e_r_callV (a := 64) (av := [.inl 0, .inl 0, .inl 0]) (st := []) mqYX11_givesFrom ml_RX11_331 cl_11 rfl (Nat.le_of_ble_eq_true rfl) (by simp [e_cat]) rfl rfl rfl dX11_given_14 (pc' := 17) rfl he2 ⟨Nat.le_refl _, Nat.le_refl _⟩ hmo ?_
  refine e_r_aload_n (pc' := 18) (by decide) dX11_given_17 rfl rfl rfl ?_
  refine e_r_geti (k := 44) (pc' := 21) cl_11 rfl (Nat.le_of_ble_eq_true rfl) rfl rfl fl_RX11_328 dX11_given_18 rfl ?_
  exact e_r_iret (ty := .int) rfl (e_nI _) dX11_given_21 h
theorem wp_X11_giver_0 {X : e_X} {d gn : Nat} {o : e_O} (M : e_M) (p1 : Int) (hmo : e_mn (557, gn, e_RF, M) o.2) (h : (∃ (r2 : Int) (N1 : e_M), e_E X d YX11_in [.inl p1, .inl 0, .inl (e_w (((e_up M 64 0 0) 68 1) - 1))] (557, gn, e_RF, (e_up M 64 0 0)) (.inl (some (.inl r2)), (557, gn, e_RF, N1)) ∧ ((¬ r2 = 0 → e_G X (d + 1) YX11_giver 27 [some (.inr (.inr 64)), some (.inl p1)] [.inl 0, .inr (.inr 64)] (557, gn, e_RF, N1) o) ∧ (r2 = 0 → e_G X (d + 1) YX11_giver 27 [some (.inr (.inr 64)), some (.inl p1)] [.inl 1, .inr (.inr 64)] (557, gn, e_RF, N1) o)))) : e_G X (d + 1) YX11_giver 0 [some (.inr (.inr 64)), some (.inl p1)] [] (557, gn, e_RF, M) o := by
  refine e_r_aload_n (pc' := 1) (by decide) dX11_giver_0 rfl rfl rfl ?_
  refine e_r_iconst (pc' := 2) dX11_giver_1 rfl (by decide) ?_
  refine e_r_puti (k := 0) (pc' := 5) cl_11 rfl (Nat.le_of_ble_eq_true rfl) rfl rfl fl_RX11_97 rfl (by decide +kernel) dX11_giver_2 rfl ?_
  refine e_r_aload_n (pc' := 6) (by decide) dX11_giver_5 rfl rfl rfl ?_
  refine e_r_iload_n (pc' := 7) dX11_giver_6 rfl rfl rfl ?_
  refine e_r_iconst (pc' := 8) dX11_giver_7 rfl (by decide) ?_
  refine e_r_aload_n (pc' := 9) (by decide) dX11_giver_8 rfl rfl rfl ?_
  refine e_r_getr (k := 12) (q := 68) (pc' := 12) cl_11 rfl (Nat.le_of_ble_eq_true rfl) rfl rfl fl_RX11_23 rfl (Nat.le_of_ble_eq_true rfl) dX11_giver_9 rfl ?_
  refine e_r_iconst (pc' := 13) dX11_giver_12 rfl (by decide) ?_
  refine e_r_iald (j9 := 1) (pc' := 14) rfl (Nat.le_of_ble_eq_true rfl) (by decide) (by decide) rfl dX11_giver_13 rfl ?_
  refine e_r_iconst (pc' := 15) dX11_giver_14 rfl (by decide) ?_
  refine e_r_isub (pc' := 16) dX11_giver_15 rfl ?_
  obtain ⟨r2, N1, he3, h⟩ := h
  refine e_r_callS (av := [.inl p1, .inl 0, .inl (e_w (((e_up M 64 0 0) 68 1) - 1))]) (st := [.inr (.inr 64)]) mqYX11_in ml_RX11_131 (by simp [e_cat]) rfl rfl rfl dX11_giver_16 (pc' := 19) rfl he3 ⟨Nat.le_refl _, Nat.le_refl _⟩ hmo ?_
  obtain ⟨ht4, hf5⟩ := h
  refine e_r_if_ne (tgt := 26) (pc' := 22) dX11_giver_19 rfl rfl (fun c => ?_) (fun c => ?_)
  · have h := ht4 c
    refine e_r_iconst (pc' := 27) dX11_giver_26 rfl (by decide) ?_
    exact h
  · have h := hf5 c
    refine e_r_iconst (pc' := 23) dX11_giver_22 rfl (by decide) ?_
    refine e_r_goto (pc' := 27) dX11_giver_23 rfl ?_
    exact h
theorem wp_X11_giver_27 {X : e_X} {d gn : Nat} {o : e_O} (M : e_M) (p1 w0 : Int) (hmo : e_mn (557, gn, e_RF, M) o.2) (h : (∃ (r2 : Int) (N1 : e_M), e_E X d YX11_bad [.inr (.inr 64), .inl w0, .inl 1, .inl 0] (557, gn, e_RF, M) (.inl (some (.inl r2)), (557, gn, e_RF, N1)) ∧ ((r2 = 0 → (∃ N6 : e_M, e_E X d YX11_givesFrom [.inr (.inr 64), .inl 0, .inl 0, .inl 0] (557, gn, e_RF, (e_up N1 64 44 (-1))) (.inl none, (557, gn, e_RF, N6)) ∧ ((0 ≤ p1 ∧ p1 < 6) ∧ (o = (.inl (some (.inl (N6 556 p1.toNat))), (557, gn, e_RF, N6)))))) ∧ (¬ (r2 = 0) → (o = (.inl (some (.inl 0)), (557, gn, e_RF, N1))))))) : e_G X (d + 1) YX11_giver 27 [some (.inr (.inr 64)), some (.inl p1)] [.inl w0, .inr (.inr 64)] (557, gn, e_RF, M) o := by
  refine e_r_iconst (pc' := 28) dX11_giver_27 rfl (by decide) ?_
  refine e_r_iconst (pc' := 29) dX11_giver_28 rfl (by decide) ?_
  obtain ⟨r2, N1, he3, h⟩ := h
  refine e_r_callV (a := 64) (av := [.inl w0, .inl 1, .inl 0]) (st := []) mqYX11_bad ml_RX11_173 cl_11 rfl (Nat.le_of_ble_eq_true rfl) (by simp [e_cat]) rfl rfl rfl dX11_giver_29 (pc' := 32) rfl he3 ⟨Nat.le_refl _, Nat.le_refl _⟩ hmo ?_
  obtain ⟨ht4, hf5⟩ := h
  refine e_r_if_eq (tgt := 37) (pc' := 35) dX11_giver_32 rfl rfl (fun c => ?_) (fun c => ?_)
  · have h := ht4 c
    refine e_r_aload_n (pc' := 38) (by decide) dX11_giver_37 rfl rfl rfl ?_
    refine e_r_iconst (pc' := 39) dX11_giver_38 rfl (by decide) ?_
    refine e_r_puti (k := 44) (pc' := 42) cl_11 rfl (Nat.le_of_ble_eq_true rfl) rfl rfl fl_RX11_328 rfl (by decide +kernel) dX11_giver_39 rfl ?_
    refine e_r_aload_n (pc' := 43) (by decide) dX11_giver_42 rfl rfl rfl ?_
    refine e_r_iconst (pc' := 44) dX11_giver_43 rfl (by decide) ?_
    refine e_r_iconst (pc' := 45) dX11_giver_44 rfl (by decide) ?_
    refine e_r_iconst (pc' := 46) dX11_giver_45 rfl (by decide) ?_
    obtain ⟨N6, he7, h⟩ := h
    refine e_r_callV (a := 64) (av := [.inl 0, .inl 0, .inl 0]) (st := []) mqYX11_givesFrom ml_RX11_331 cl_11 rfl (Nat.le_of_ble_eq_true rfl) (by simp [e_cat]) rfl rfl rfl dX11_giver_46 (pc' := 49) rfl he7 ⟨Nat.le_refl _, Nat.le_refl _⟩ hmo ?_
    refine e_r_aload_n (pc' := 50) (by decide) dX11_giver_49 rfl rfl rfl ?_
    refine e_r_getr (k := 43) (q := 556) (pc' := 53) cl_11 rfl (Nat.le_of_ble_eq_true rfl) rfl rfl fl_RX11_88 rfl (Nat.le_of_ble_eq_true rfl) dX11_giver_50 rfl ?_
    refine e_r_iload_n (pc' := 54) dX11_giver_53 rfl rfl rfl ?_
    obtain ⟨hb8, h⟩ := h
    refine e_r_iald (j9 := p1.toNat) (pc' := 55) rfl (Nat.le_of_ble_eq_true rfl) hb8.1 hb8.2 rfl dX11_giver_54 rfl ?_
    exact e_r_iret (ty := .int) rfl (e_nI _) dX11_giver_55 h
  · have h := hf5 c
    refine e_r_iconst (pc' := 36) dX11_giver_35 rfl (by decide) ?_
    exact e_r_iret (ty := .int) rfl (e_nI _) dX11_giver_36 h
theorem wp_X11_isKept_0 {X : e_X} {d gn : Nat} {o : e_O} (M : e_M) (p1 p2 : Int) (h : e_G X d YX11_isKept 2 [some (.inr (.inr 64)), some (.inl p1), some (.inl p2), some (.inl 0)] [] (557, gn, e_RF, M) o) : e_G X d YX11_isKept 0 [some (.inr (.inr 64)), some (.inl p1), some (.inl p2), none] [] (557, gn, e_RF, M) o := by
  refine e_r_iconst (pc' := 1) dX11_isKept_0 rfl (by decide) ?_
  refine e_r_istore_n (pc' := 2) (loc' := [some (.inr (.inr 64)), some (.inl p1), some (.inl p2), some (.inl 0)]) dX11_isKept_1 rfl rfl rfl rfl rfl ?_
  exact h
theorem wp_X11_isKept_2 {X : e_X} {d gn : Nat} {o : e_O} (M : e_M) (p1 p2 v3 : Int) (h : (((M 68 2) ≤ v3 → (o = (.inl (some (.inl 0)), (557, gn, e_RF, M)))) ∧ (¬ ((M 68 2) ≤ v3) → ((0 ≤ v3 ∧ v3 < 12) ∧ ((¬ (M (101 + v3.toNat) 0) = p1 → e_G X d YX11_isKept 2 [some (.inr (.inr 64)), some (.inl p1), some (.inl p2), some (.inl (e_w (v3 + 1)))] [] (557, gn, e_RF, M) o) ∧ ((M (101 + v3.toNat) 0) = p1 → ((0 ≤ (e_w (42 + v3)) ∧ (e_w (42 + v3)) < 56) ∧ ((¬ (M 532 (e_w (42 + v3)).toNat) = 0 → e_G X d YX11_isKept 2 [some (.inr (.inr 64)), some (.inl p1), some (.inl p2), some (.inl (e_w (v3 + 1)))] [] (557, gn, e_RF, M) o) ∧ ((M 532 (e_w (42 + v3)).toNat) = 0 → ((0 ≤ (e_w (30 + v3)) ∧ (e_w (30 + v3)) < 56) ∧ ((¬ (M 532 (e_w (30 + v3)).toNat) = p2 → e_G X d YX11_isKept 2 [some (.inr (.inr 64)), some (.inl p1), some (.inl p2), some (.inl (e_w (v3 + 1)))] [] (557, gn, e_RF, M) o) ∧ ((M 532 (e_w (30 + v3)).toNat) = p2 → (o = (.inl (some (.inl 1)), (557, gn, e_RF, M))))))))))))))) : e_G X d YX11_isKept 2 [some (.inr (.inr 64)), some (.inl p1), some (.inl p2), some (.inl v3)] [] (557, gn, e_RF, M) o := by
  refine e_r_iload_n (pc' := 3) dX11_isKept_2 rfl rfl rfl ?_
  refine e_r_aload_n (pc' := 4) (by decide) dX11_isKept_3 rfl rfl rfl ?_
  refine e_r_getr (k := 12) (q := 68) (pc' := 7) cl_11 rfl (Nat.le_of_ble_eq_true rfl) rfl rfl fl_RX11_23 rfl (Nat.le_of_ble_eq_true rfl) dX11_isKept_4 rfl ?_
  refine e_r_iconst (pc' := 8) dX11_isKept_7 rfl (by decide) ?_
  refine e_r_iald (j9 := 2) (pc' := 9) rfl (Nat.le_of_ble_eq_true rfl) (by decide) (by decide) rfl dX11_isKept_8 rfl ?_
  obtain ⟨ht1, hf2⟩ := h
  refine e_r_icmp_ge (tgt := 57) (pc' := 12) dX11_isKept_9 rfl rfl (fun c => ?_) (fun c => ?_)
  · have h := ht1 c
    refine e_r_iconst (pc' := 58) dX11_isKept_57 rfl (by decide) ?_
    exact e_r_iret (ty := .boolean) rfl (e_nZ (by decide)) dX11_isKept_58 h
  · have h := hf2 c
    refine e_r_aload_n (pc' := 13) (by decide) dX11_isKept_12 rfl rfl rfl ?_
    refine e_r_getr (k := 20) (q := 100) (pc' := 16) cl_11 rfl (Nat.le_of_ble_eq_true rfl) rfl rfl fl_RX11_49 rfl (Nat.le_of_ble_eq_true rfl) dX11_isKept_13 rfl ?_
    refine e_r_iload_n (pc' := 17) dX11_isKept_16 rfl rfl rfl ?_
    obtain ⟨hb3, h⟩ := h
    refine e_r_aldr (q := (101 + v3.toNat)) (pc' := 18) rfl (Nat.le_of_ble_eq_true rfl) hb3.1 hb3.2 rfl (sh_100 hb3.1 hb3.2).2.1 dX11_isKept_17 rfl ?_
    refine e_r_iconst (pc' := 19) dX11_isKept_18 rfl (by decide) ?_
    refine e_r_iald (j9 := 0) (pc' := 20) (sh_100 hb3.1 hb3.2).1 (sh_100 hb3.1 hb3.2).2.1 (by decide) (by decide) rfl dX11_isKept_19 rfl ?_
    refine e_r_iload_n (pc' := 21) dX11_isKept_20 rfl rfl rfl ?_
    obtain ⟨ht4, hf5⟩ := h
    refine e_r_icmp_ne (tgt := 51) (pc' := 24) dX11_isKept_21 rfl rfl (fun c => ?_) (fun c => ?_)
    · have h := ht4 c
      refine e_r_iinc (pc' := 54) (loc' := [some (.inr (.inr 64)), some (.inl p1), some (.inl p2), some (.inl (e_w (v3 + 1)))]) dX11_isKept_51 rfl rfl rfl rfl rfl ?_
      refine e_r_goto (pc' := 2) dX11_isKept_54 rfl ?_
      exact h
    · have h := hf5 c
      refine e_r_aload_n (pc' := 25) (by decide) dX11_isKept_24 rfl rfl rfl ?_
      refine e_r_getr (k := 31) (q := 532) (pc' := 28) cl_11 rfl (Nat.le_of_ble_eq_true rfl) rfl rfl fl_RX11_73 rfl (Nat.le_of_ble_eq_true rfl) dX11_isKept_25 rfl ?_
      refine e_r_bipush (pc' := 30) dX11_isKept_28 rfl (by decide) ?_
      refine e_r_iload_n (pc' := 31) dX11_isKept_30 rfl rfl rfl ?_
      refine e_r_iadd (pc' := 32) dX11_isKept_31 rfl ?_
      obtain ⟨hb6, h⟩ := h
      refine e_r_iald (j9 := (e_w (42 + v3)).toNat) (pc' := 33) rfl (Nat.le_of_ble_eq_true rfl) hb6.1 hb6.2 rfl dX11_isKept_32 rfl ?_
      obtain ⟨ht7, hf8⟩ := h
      refine e_r_if_ne (tgt := 51) (pc' := 36) dX11_isKept_33 rfl rfl (fun c => ?_) (fun c => ?_)
      · have h := ht7 c
        refine e_r_iinc (pc' := 54) (loc' := [some (.inr (.inr 64)), some (.inl p1), some (.inl p2), some (.inl (e_w (v3 + 1)))]) dX11_isKept_51 rfl rfl rfl rfl rfl ?_
        refine e_r_goto (pc' := 2) dX11_isKept_54 rfl ?_
        exact h
      · have h := hf8 c
        refine e_r_aload_n (pc' := 37) (by decide) dX11_isKept_36 rfl rfl rfl ?_
        refine e_r_getr (k := 31) (q := 532) (pc' := 40) cl_11 rfl (Nat.le_of_ble_eq_true rfl) rfl rfl fl_RX11_73 rfl (Nat.le_of_ble_eq_true rfl) dX11_isKept_37 rfl ?_
        refine e_r_bipush (pc' := 42) dX11_isKept_40 rfl (by decide) ?_
        refine e_r_iload_n (pc' := 43) dX11_isKept_42 rfl rfl rfl ?_
        refine e_r_iadd (pc' := 44) dX11_isKept_43 rfl ?_
        obtain ⟨hb9, h⟩ := h
        refine e_r_iald (j9 := (e_w (30 + v3)).toNat) (pc' := 45) rfl (Nat.le_of_ble_eq_true rfl) hb9.1 hb9.2 rfl dX11_isKept_44 rfl ?_
        refine e_r_iload_n (pc' := 46) dX11_isKept_45 rfl rfl rfl ?_
        obtain ⟨ht10, hf11⟩ := h
        refine e_r_icmp_ne (tgt := 51) (pc' := 49) dX11_isKept_46 rfl rfl (fun c => ?_) (fun c => ?_)
        · have h := ht10 c
          refine e_r_iinc (pc' := 54) (loc' := [some (.inr (.inr 64)), some (.inl p1), some (.inl p2), some (.inl (e_w (v3 + 1)))]) dX11_isKept_51 rfl rfl rfl rfl rfl ?_
          refine e_r_goto (pc' := 2) dX11_isKept_54 rfl ?_
          exact h
        · have h := hf11 c
          refine e_r_iconst (pc' := 50) dX11_isKept_49 rfl (by decide) ?_
          exact e_r_iret (ty := .boolean) rfl (e_nZ (by decide)) dX11_isKept_50 h
theorem wp_X11_isPaid_0 {X : e_X} {d gn : Nat} {o : e_O} (M : e_M) (p1 p2 p3 : Int) (h : ((0 ≤ (e_w (0 + p1)) ∧ (e_w (0 + p1)) < 56) ∧ ((0 ≤ (e_w (12 + p1)) ∧ (e_w (12 + p1)) < 56) ∧ e_G X (d + 1) YX11_isPaid 27 [some (.inr (.inr 64)), some (.inl p1), some (.inl p2), some (.inl p3), some (.inl (M 532 (e_w (0 + p1)).toNat)), some (.inl (M 532 (e_w (12 + p1)).toNat)), some (.inl 0), some (.inl 0), none, none] [] (557, gn, e_RF, M) o))) : e_G X (d + 1) YX11_isPaid 0 [some (.inr (.inr 64)), some (.inl p1), some (.inl p2), some (.inl p3), none, none, none, none, none, none] [] (557, gn, e_RF, M) o := by
  refine e_r_aload_n (pc' := 1) (by decide) dX11_isPaid_0 rfl rfl rfl ?_
  refine e_r_getr (k := 31) (q := 532) (pc' := 4) cl_11 rfl (Nat.le_of_ble_eq_true rfl) rfl rfl fl_RX11_73 rfl (Nat.le_of_ble_eq_true rfl) dX11_isPaid_1 rfl ?_
  refine e_r_iconst (pc' := 5) dX11_isPaid_4 rfl (by decide) ?_
  refine e_r_iload_n (pc' := 6) dX11_isPaid_5 rfl rfl rfl ?_
  refine e_r_iadd (pc' := 7) dX11_isPaid_6 rfl ?_
  obtain ⟨hb1, h⟩ := h
  refine e_r_iald (j9 := (e_w (0 + p1)).toNat) (pc' := 8) rfl (Nat.le_of_ble_eq_true rfl) hb1.1 hb1.2 rfl dX11_isPaid_7 rfl ?_
  refine e_r_istore (pc' := 10) (loc' := [some (.inr (.inr 64)), some (.inl p1), some (.inl p2), some (.inl p3), some (.inl (M 532 (e_w (0 + p1)).toNat)), none, none, none, none, none]) dX11_isPaid_8 rfl rfl rfl rfl ?_
  refine e_r_aload_n (pc' := 11) (by decide) dX11_isPaid_10 rfl rfl rfl ?_
  refine e_r_getr (k := 31) (q := 532) (pc' := 14) cl_11 rfl (Nat.le_of_ble_eq_true rfl) rfl rfl fl_RX11_73 rfl (Nat.le_of_ble_eq_true rfl) dX11_isPaid_11 rfl ?_
  refine e_r_bipush (pc' := 16) dX11_isPaid_14 rfl (by decide) ?_
  refine e_r_iload_n (pc' := 17) dX11_isPaid_16 rfl rfl rfl ?_
  refine e_r_iadd (pc' := 18) dX11_isPaid_17 rfl ?_
  obtain ⟨hb2, h⟩ := h
  refine e_r_iald (j9 := (e_w (12 + p1)).toNat) (pc' := 19) rfl (Nat.le_of_ble_eq_true rfl) hb2.1 hb2.2 rfl dX11_isPaid_18 rfl ?_
  refine e_r_istore (pc' := 21) (loc' := [some (.inr (.inr 64)), some (.inl p1), some (.inl p2), some (.inl p3), some (.inl (M 532 (e_w (0 + p1)).toNat)), some (.inl (M 532 (e_w (12 + p1)).toNat)), none, none, none, none]) dX11_isPaid_19 rfl rfl rfl rfl ?_
  refine e_r_iconst (pc' := 22) dX11_isPaid_21 rfl (by decide) ?_
  refine e_r_istore (pc' := 24) (loc' := [some (.inr (.inr 64)), some (.inl p1), some (.inl p2), some (.inl p3), some (.inl (M 532 (e_w (0 + p1)).toNat)), some (.inl (M 532 (e_w (12 + p1)).toNat)), some (.inl 0), none, none, none]) dX11_isPaid_22 rfl rfl rfl rfl ?_
  refine e_r_iconst (pc' := 25) dX11_isPaid_24 rfl (by decide) ?_
  refine e_r_istore (pc' := 27) (loc' := [some (.inr (.inr 64)), some (.inl p1), some (.inl p2), some (.inl p3), some (.inl (M 532 (e_w (0 + p1)).toNat)), some (.inl (M 532 (e_w (12 + p1)).toNat)), some (.inl 0), some (.inl 0), none, none]) dX11_isPaid_25 rfl rfl rfl rfl ?_
  exact h
theorem wp_X11_isPaid_27 {X : e_X} {d gn : Nat} {o : e_O} (M : e_M) (p1 p2 p3 v4 v5 v6 v7 : Int) (h : (((M 68 0) ≤ v7 → e_G X (d + 1) YX11_isPaid 69 [some (.inr (.inr 64)), some (.inl p1), some (.inl p2), some (.inl p3), some (.inl v4), some (.inl v5), some (.inl v6), some (.inl 0), none, none] [] (557, gn, e_RF, M) o) ∧ (¬ ((M 68 0) ≤ v7) → ((¬ v7 = p1 → ((0 ≤ v7 ∧ v7 < 6) ∧ e_G X (d + 1) YX11_isPaid 27 [some (.inr (.inr 64)), some (.inl p1), some (.inl p2), some (.inl p3), some (.inl v4), some (.inl v5), some (.inl (e_or v6 (M 72 v7.toNat))), some (.inl (e_w (v7 + 1))), none, none] [] (557, gn, e_RF, M) o)) ∧ (v7 = p1 → e_G X (d + 1) YX11_isPaid 27 [some (.inr (.inr 64)), some (.inl p1), some (.inl p2), some (.inl p3), some (.inl v4), some (.inl v5), some (.inl (e_or v6 0)), some (.inl (e_w (v7 + 1))), none, none] [] (557, gn, e_RF, M) o))))) : e_G X (d + 1) YX11_isPaid 27 [some (.inr (.inr 64)), some (.inl p1), some (.inl p2), some (.inl p3), some (.inl v4), some (.inl v5), some (.inl v6), some (.inl v7), none, none] [] (557, gn, e_RF, M) o := by
  refine e_r_iload (pc' := 29) dX11_isPaid_27 rfl rfl ?_
  refine e_r_aload_n (pc' := 30) (by decide) dX11_isPaid_29 rfl rfl rfl ?_
  refine e_r_getr (k := 12) (q := 68) (pc' := 33) cl_11 rfl (Nat.le_of_ble_eq_true rfl) rfl rfl fl_RX11_23 rfl (Nat.le_of_ble_eq_true rfl) dX11_isPaid_30 rfl ?_
  refine e_r_iconst (pc' := 34) dX11_isPaid_33 rfl (by decide) ?_
  refine e_r_iald (j9 := 0) (pc' := 35) rfl (Nat.le_of_ble_eq_true rfl) (by decide) (by decide) rfl dX11_isPaid_34 rfl ?_
  obtain ⟨ht1, hf2⟩ := h
  refine e_r_icmp_ge (tgt := 66) (pc' := 38) dX11_isPaid_35 rfl rfl (fun c => ?_) (fun c => ?_)
  · have h := ht1 c
    refine e_r_iconst (pc' := 67) dX11_isPaid_66 rfl (by decide) ?_
    refine e_r_istore (pc' := 69) (loc' := [some (.inr (.inr 64)), some (.inl p1), some (.inl p2), some (.inl p3), some (.inl v4), some (.inl v5), some (.inl v6), some (.inl 0), none, none]) dX11_isPaid_67 rfl rfl rfl rfl ?_
    exact h
  · have h := hf2 c
    refine e_r_iload (pc' := 40) dX11_isPaid_38 rfl rfl ?_
    refine e_r_iload (pc' := 42) dX11_isPaid_40 rfl rfl ?_
    refine e_r_iload_n (pc' := 43) dX11_isPaid_42 rfl rfl rfl ?_
    obtain ⟨ht3, hf4⟩ := h
    refine e_r_icmp_ne (tgt := 50) (pc' := 46) dX11_isPaid_43 rfl rfl (fun c => ?_) (fun c => ?_)
    · have h := ht3 c
      refine e_r_aload_n (pc' := 51) (by decide) dX11_isPaid_50 rfl rfl rfl ?_
      refine e_r_getr (k := 16) (q := 72) (pc' := 54) cl_11 rfl (Nat.le_of_ble_eq_true rfl) rfl rfl fl_RX11_35 rfl (Nat.le_of_ble_eq_true rfl) dX11_isPaid_51 rfl ?_
      refine e_r_iload (pc' := 56) dX11_isPaid_54 rfl rfl ?_
      obtain ⟨hb5, h⟩ := h
      refine e_r_iald (j9 := v7.toNat) (pc' := 57) rfl (Nat.le_of_ble_eq_true rfl) hb5.1 hb5.2 rfl dX11_isPaid_56 rfl ?_
      refine e_r_ior (pc' := 58) dX11_isPaid_57 rfl ?_
      refine e_r_istore (pc' := 60) (loc' := [some (.inr (.inr 64)), some (.inl p1), some (.inl p2), some (.inl p3), some (.inl v4), some (.inl v5), some (.inl (e_or v6 (M 72 v7.toNat))), some (.inl v7), none, none]) dX11_isPaid_58 rfl rfl rfl rfl ?_
      refine e_r_iinc (pc' := 63) (loc' := [some (.inr (.inr 64)), some (.inl p1), some (.inl p2), some (.inl p3), some (.inl v4), some (.inl v5), some (.inl (e_or v6 (M 72 v7.toNat))), some (.inl (e_w (v7 + 1))), none, none]) dX11_isPaid_60 rfl rfl rfl rfl rfl ?_
      refine e_r_goto (pc' := 27) dX11_isPaid_63 rfl ?_
      exact h
    · have h := hf4 c
      refine e_r_iconst (pc' := 47) dX11_isPaid_46 rfl (by decide) ?_
      refine e_r_goto (pc' := 57) dX11_isPaid_47 rfl ?_
      refine e_r_ior (pc' := 58) dX11_isPaid_57 rfl ?_
      refine e_r_istore (pc' := 60) (loc' := [some (.inr (.inr 64)), some (.inl p1), some (.inl p2), some (.inl p3), some (.inl v4), some (.inl v5), some (.inl (e_or v6 0)), some (.inl v7), none, none]) dX11_isPaid_58 rfl rfl rfl rfl ?_
      refine e_r_iinc (pc' := 63) (loc' := [some (.inr (.inr 64)), some (.inl p1), some (.inl p2), some (.inl p3), some (.inl v4), some (.inl v5), some (.inl (e_or v6 0)), some (.inl (e_w (v7 + 1))), none, none]) dX11_isPaid_60 rfl rfl rfl rfl rfl ?_
      refine e_r_goto (pc' := 27) dX11_isPaid_63 rfl ?_
      exact h
theorem wp_X11_isPaid_69 {X : e_X} {d gn : Nat} {o : e_O} (M : e_M) (p1 p2 p3 v4 v5 v6 v7 : Int) (hmo : e_mn (557, gn, e_RF, M) o.2) (h : ((p2 ≤ v7 → (o = (.inl (some (.inl 1)), (557, gn, e_RF, M)))) ∧ (¬ (p2 ≤ v7) → (∃ (r4 : Int) (N3 : e_M), e_E X d YX11_has [.inl p3, .inl v7] (557, gn, e_RF, M) (.inl (some (.inl r4)), (557, gn, e_RF, N3)) ∧ ((¬ r4 = 0 → ((0 ≤ p1 ∧ p1 < 6) ∧ ((0 ≤ p1 ∧ p1 < 6) ∧ (∃ (r11 : Int) (N10 : e_M), e_E X d YX11_ones [.inl (e_and (N3 72 p1.toNat) (e_xor v6 (-1)))] (557, gn, e_RF, N3) (.inl (some (.inl r11)), (557, gn, e_RF, N10)) ∧ (∃ (r14 : Int) (N13 : e_M), e_E X d YX11_priceBy [.inr (.inr 64), .inl (e_w ((M 532 55) + v7)), .inl 0, .inl v5, .inl v4, .inl (N3 (81 + p1.toNat) 1), .inl r11, .inl 0, .inl p1] (557, gn, e_RF, N10) (.inl (some (.inl r14)), (557, gn, e_RF, N13)) ∧ (∃ (r17 : Int) (N16 : e_M), e_E X d YX11_isKept [.inr (.inr 64), .inl p1, .inl (e_w ((M 532 55) + v7))] (557, gn, e_RF, N13) (.inl (some (.inl r17)), (557, gn, e_RF, N16)) ∧ ((¬ r17 = 0 → (o = (.inl (some (.inl 0)), (557, gn, e_RF, N16)))) ∧ (r17 = 0 → ((r14 ≤ v4 → e_G X (d + 1) YX11_isPaid 69 [some (.inr (.inr 64)), some (.inl p1), some (.inl p2), some (.inl p3), some (.inl (e_w (v4 - r14))), some (.inl (e_w (v5 + 1))), some (.inl v6), some (.inl (e_w (v7 + 1))), none, none] [] (557, gn, e_RF, N16) o) ∧ (¬ (r14 ≤ v4) → (o = (.inl (some (.inl 0)), (557, gn, e_RF, N16))))))))))))) ∧ (r4 = 0 → ((0 ≤ p1 ∧ p1 < 6) ∧ (∃ (r25 : Int) (N24 : e_M), e_E X d YX11_less [.inl 999, .inl (e_w (v4 + (N3 (81 + p1.toNat) 1)))] (557, gn, e_RF, N3) (.inl (some (.inl r25)), (557, gn, e_RF, N24)) ∧ e_G X (d + 1) YX11_isPaid 69 [some (.inr (.inr 64)), some (.inl p1), some (.inl p2), some (.inl p3), some (.inl r25), some (.inl v5), some (.inl v6), some (.inl (e_w (v7 + 1))), none, none] [] (557, gn, e_RF, N24) o)))))))) : e_G X (d + 1) YX11_isPaid 69 [some (.inr (.inr 64)), some (.inl p1), some (.inl p2), some (.inl p3), some (.inl v4), some (.inl v5), some (.inl v6), some (.inl v7), none, none] [] (557, gn, e_RF, M) o := by
  refine e_r_iload (pc' := 71) dX11_isPaid_69 rfl rfl ?_
  refine e_r_iload_n (pc' := 72) dX11_isPaid_71 rfl rfl rfl ?_
  obtain ⟨ht1, hf2⟩ := h
  refine e_r_icmp_ge (tgt := 190) (pc' := 75) dX11_isPaid_72 rfl rfl (fun c => ?_) (fun c => ?_)
  · have h := ht1 c
    refine e_r_iconst (pc' := 191) dX11_isPaid_190 rfl (by decide) ?_
    exact e_r_iret (ty := .boolean) rfl (e_nZ (by decide)) dX11_isPaid_191 h
  · have h := hf2 c
    refine e_r_aload_n (pc' := 76) (by decide) dX11_isPaid_75 rfl rfl rfl ?_
    refine e_r_getr (k := 31) (q := 532) (pc' := 79) cl_11 rfl (Nat.le_of_ble_eq_true rfl) rfl rfl fl_RX11_73 rfl (Nat.le_of_ble_eq_true rfl) dX11_isPaid_76 rfl ?_
    refine e_r_bipush (pc' := 81) dX11_isPaid_79 rfl (by decide) ?_
    refine e_r_iald (j9 := 55) (pc' := 82) rfl (Nat.le_of_ble_eq_true rfl) (by decide) (by decide) rfl dX11_isPaid_81 rfl ?_
    refine e_r_iload (pc' := 84) dX11_isPaid_82 rfl rfl ?_
    refine e_r_iadd (pc' := 85) dX11_isPaid_84 rfl ?_
    refine e_r_istore (pc' := 87) (loc' := [some (.inr (.inr 64)), some (.inl p1), some (.inl p2), some (.inl p3), some (.inl v4), some (.inl v5), some (.inl v6), some (.inl v7), some (.inl (e_w ((M 532 55) + v7))), none]) dX11_isPaid_85 rfl rfl rfl rfl ?_
    refine e_r_iload_n (pc' := 88) dX11_isPaid_87 rfl rfl rfl ?_
    refine e_r_iload (pc' := 90) dX11_isPaid_88 rfl rfl ?_
    obtain ⟨r4, N3, he5, h⟩ := h
    refine e_r_callS (av := [.inl p3, .inl v7]) (st := []) mqYX11_has ml_RX11_255 (by simp [e_cat]) rfl rfl rfl dX11_isPaid_90 (pc' := 93) rfl he5 ⟨Nat.le_refl _, Nat.le_refl _⟩ hmo ?_
    obtain ⟨ht6, hf7⟩ := h
    refine e_r_if_ne (tgt := 118) (pc' := 96) dX11_isPaid_93 rfl rfl (fun c => ?_) (fun c => ?_)
    · have h := ht6 c
      refine e_r_aload_n (pc' := 119) (by decide) dX11_isPaid_118 rfl rfl rfl ?_
      refine e_r_iload (pc' := 121) dX11_isPaid_119 rfl rfl ?_
      refine e_r_iconst (pc' := 122) dX11_isPaid_121 rfl (by decide) ?_
      refine e_r_iload (pc' := 124) dX11_isPaid_122 rfl rfl ?_
      refine e_r_iload (pc' := 126) dX11_isPaid_124 rfl rfl ?_
      refine e_r_aload_n (pc' := 127) (by decide) dX11_isPaid_126 rfl rfl rfl ?_
      refine e_r_getr (k := 18) (q := 80) (pc' := 130) cl_11 rfl (Nat.le_of_ble_eq_true rfl) rfl rfl fl_RX11_43 rfl (Nat.le_of_ble_eq_true rfl) dX11_isPaid_127 rfl ?_
      refine e_r_iload_n (pc' := 131) dX11_isPaid_130 rfl rfl rfl ?_
      obtain ⟨hb8, h⟩ := h
      refine e_r_aldr (q := (81 + p1.toNat)) (pc' := 132) rfl (Nat.le_of_ble_eq_true rfl) hb8.1 hb8.2 rfl (sh_80 hb8.1 hb8.2).2.1 dX11_isPaid_131 rfl ?_
      refine e_r_iconst (pc' := 133) dX11_isPaid_132 rfl (by decide) ?_
      refine e_r_iald (j9 := 1) (pc' := 134) (sh_80 hb8.1 hb8.2).1 (sh_80 hb8.1 hb8.2).2.1 (by decide) (by decide) rfl dX11_isPaid_133 rfl ?_
      refine e_r_aload_n (pc' := 135) (by decide) dX11_isPaid_134 rfl rfl rfl ?_
      refine e_r_getr (k := 16) (q := 72) (pc' := 138) cl_11 rfl (Nat.le_of_ble_eq_true rfl) rfl rfl fl_RX11_35 rfl (Nat.le_of_ble_eq_true rfl) dX11_isPaid_135 rfl ?_
      refine e_r_iload_n (pc' := 139) dX11_isPaid_138 rfl rfl rfl ?_
      obtain ⟨hb9, h⟩ := h
      refine e_r_iald (j9 := p1.toNat) (pc' := 140) rfl (Nat.le_of_ble_eq_true rfl) hb9.1 hb9.2 rfl dX11_isPaid_139 rfl ?_
      refine e_r_iload (pc' := 142) dX11_isPaid_140 rfl rfl ?_
      refine e_r_iconst (pc' := 143) dX11_isPaid_142 rfl (by decide) ?_
      refine e_r_ixor (pc' := 144) dX11_isPaid_143 rfl ?_
      refine e_r_iand (pc' := 145) dX11_isPaid_144 rfl ?_
      obtain ⟨r11, N10, he12, h⟩ := h
      refine e_r_callS (av := [.inl (e_and (N3 72 p1.toNat) (e_xor v6 (-1)))]) (st := [.inl (N3 (81 + p1.toNat) 1), .inl v4, .inl v5, .inl 0, .inl (e_w ((M 532 55) + v7)), .inr (.inr 64)]) mqYX11_ones ml_RX11_272 (by simp [e_cat]) rfl rfl rfl dX11_isPaid_145 (pc' := 148) rfl he12 ⟨Nat.le_refl _, Nat.le_refl _⟩ hmo ?_
      refine e_r_iconst (pc' := 149) dX11_isPaid_148 rfl (by decide) ?_
      refine e_r_iload_n (pc' := 150) dX11_isPaid_149 rfl rfl rfl ?_
      obtain ⟨r14, N13, he15, h⟩ := h
      refine e_r_callV (a := 64) (av := [.inl (e_w ((M 532 55) + v7)), .inl 0, .inl v5, .inl v4, .inl (N3 (81 + p1.toNat) 1), .inl r11, .inl 0, .inl p1]) (st := []) mqYX11_priceBy ml_RX11_275 cl_11 rfl (Nat.le_of_ble_eq_true rfl) (by simp [e_cat]) rfl rfl rfl dX11_isPaid_150 (pc' := 153) rfl he15 ⟨Nat.le_refl _, Nat.le_refl _⟩ hmo ?_
      refine e_r_istore (pc' := 155) (loc' := [some (.inr (.inr 64)), some (.inl p1), some (.inl p2), some (.inl p3), some (.inl v4), some (.inl v5), some (.inl v6), some (.inl v7), some (.inl (e_w ((M 532 55) + v7))), some (.inl r14)]) dX11_isPaid_153 rfl rfl rfl rfl ?_
      refine e_r_aload_n (pc' := 156) (by decide) dX11_isPaid_155 rfl rfl rfl ?_
      refine e_r_iload_n (pc' := 157) dX11_isPaid_156 rfl rfl rfl ?_
      refine e_r_iload (pc' := 159) dX11_isPaid_157 rfl rfl ?_
      obtain ⟨r17, N16, he18, h⟩ := h
      refine e_r_callV (a := 64) (av := [.inl p1, .inl (e_w ((M 532 55) + v7))]) (st := []) mqYX11_isKept ml_RX11_335 cl_11 rfl (Nat.le_of_ble_eq_true rfl) (by simp [e_cat]) rfl rfl rfl dX11_isPaid_159 (pc' := 162) rfl he18 ⟨Nat.le_refl _, Nat.le_refl _⟩ hmo ?_
      obtain ⟨ht19, hf20⟩ := h
      refine e_r_if_ne (tgt := 172) (pc' := 165) dX11_isPaid_162 rfl rfl (fun c => ?_) (fun c => ?_)
      · have h := ht19 c
        refine e_r_iconst (pc' := 173) dX11_isPaid_172 rfl (by decide) ?_
        exact e_r_iret (ty := .boolean) rfl (e_nZ (by decide)) dX11_isPaid_173 h
      · have h := hf20 c
        refine e_r_iload (pc' := 167) dX11_isPaid_165 rfl rfl ?_
        refine e_r_iload (pc' := 169) dX11_isPaid_167 rfl rfl ?_
        obtain ⟨ht21, hf22⟩ := h
        refine e_r_icmp_le (tgt := 174) (pc' := 172) dX11_isPaid_169 rfl rfl (fun c => ?_) (fun c => ?_)
        · have h := ht21 c
          refine e_r_iload (pc' := 176) dX11_isPaid_174 rfl rfl ?_
          refine e_r_iload (pc' := 178) dX11_isPaid_176 rfl rfl ?_
          refine e_r_isub (pc' := 179) dX11_isPaid_178 rfl ?_
          refine e_r_istore (pc' := 181) (loc' := [some (.inr (.inr 64)), some (.inl p1), some (.inl p2), some (.inl p3), some (.inl (e_w (v4 - r14))), some (.inl v5), some (.inl v6), some (.inl v7), some (.inl (e_w ((M 532 55) + v7))), some (.inl r14)]) dX11_isPaid_179 rfl rfl rfl rfl ?_
          refine e_r_iinc (pc' := 184) (loc' := [some (.inr (.inr 64)), some (.inl p1), some (.inl p2), some (.inl p3), some (.inl (e_w (v4 - r14))), some (.inl (e_w (v5 + 1))), some (.inl v6), some (.inl v7), some (.inl (e_w ((M 532 55) + v7))), some (.inl r14)]) dX11_isPaid_181 rfl rfl rfl rfl rfl ?_
          refine e_r_iinc (pc' := 187) (loc' := [some (.inr (.inr 64)), some (.inl p1), some (.inl p2), some (.inl p3), some (.inl (e_w (v4 - r14))), some (.inl (e_w (v5 + 1))), some (.inl v6), some (.inl (e_w (v7 + 1))), some (.inl (e_w ((M 532 55) + v7))), some (.inl r14)]) dX11_isPaid_184 rfl rfl rfl rfl rfl ?_
          refine e_r_goto (pc' := 69) dX11_isPaid_187 rfl ?_
          exact e_forget (m := [true, true, true, true, true, true, true, true, false, false]) h rfl
        · have h := hf22 c
          refine e_r_iconst (pc' := 173) dX11_isPaid_172 rfl (by decide) ?_
          exact e_r_iret (ty := .boolean) rfl (e_nZ (by decide)) dX11_isPaid_173 h
    · have h := hf7 c
      refine e_r_sipush (pc' := 99) dX11_isPaid_96 rfl (by decide) ?_
      refine e_r_iload (pc' := 101) dX11_isPaid_99 rfl rfl ?_
      refine e_r_aload_n (pc' := 102) (by decide) dX11_isPaid_101 rfl rfl rfl ?_
      refine e_r_getr (k := 18) (q := 80) (pc' := 105) cl_11 rfl (Nat.le_of_ble_eq_true rfl) rfl rfl fl_RX11_43 rfl (Nat.le_of_ble_eq_true rfl) dX11_isPaid_102 rfl ?_
      refine e_r_iload_n (pc' := 106) dX11_isPaid_105 rfl rfl rfl ?_
      obtain ⟨hb23, h⟩ := h
      refine e_r_aldr (q := (81 + p1.toNat)) (pc' := 107) rfl (Nat.le_of_ble_eq_true rfl) hb23.1 hb23.2 rfl (sh_80 hb23.1 hb23.2).2.1 dX11_isPaid_106 rfl ?_
      refine e_r_iconst (pc' := 108) dX11_isPaid_107 rfl (by decide) ?_
      refine e_r_iald (j9 := 1) (pc' := 109) (sh_80 hb23.1 hb23.2).1 (sh_80 hb23.1 hb23.2).2.1 (by decide) (by decide) rfl dX11_isPaid_108 rfl ?_
      refine e_r_iadd (pc' := 110) dX11_isPaid_109 rfl ?_
      obtain ⟨r25, N24, he26, h⟩ := h
      refine e_r_callS (av := [.inl 999, .inl (e_w (v4 + (N3 (81 + p1.toNat) 1)))]) (st := []) mqYX11_less ml_RX11_237 (by simp [e_cat]) rfl rfl rfl dX11_isPaid_110 (pc' := 113) rfl he26 ⟨Nat.le_refl _, Nat.le_refl _⟩ hmo ?_
      refine e_r_istore (pc' := 115) (loc' := [some (.inr (.inr 64)), some (.inl p1), some (.inl p2), some (.inl p3), some (.inl r25), some (.inl v5), some (.inl v6), some (.inl v7), some (.inl (e_w ((M 532 55) + v7))), none]) dX11_isPaid_113 rfl rfl rfl rfl ?_
      refine e_r_goto (pc' := 184) dX11_isPaid_115 rfl ?_
      refine e_r_iinc (pc' := 187) (loc' := [some (.inr (.inr 64)), some (.inl p1), some (.inl p2), some (.inl p3), some (.inl r25), some (.inl v5), some (.inl v6), some (.inl (e_w (v7 + 1))), some (.inl (e_w ((M 532 55) + v7))), none]) dX11_isPaid_184 rfl rfl rfl rfl rfl ?_
      refine e_r_goto (pc' := 69) dX11_isPaid_187 rfl ?_
      exact e_forget (m := [true, true, true, true, true, true, true, true, false, false]) h rfl
theorem wp_X11_skips_0 {X : e_X} {d gn : Nat} {o : e_O} (M : e_M) (p1 p2 p3 : Int) (hmo : e_mn (557, gn, e_RF, M) o.2) (h : (∃ (r2 : Int) (N1 : e_M), e_E X d YX11_isPerson [.inr (.inr 64), .inl p1] (557, gn, e_RF, (e_up M 64 0 0)) (.inl (some (.inl r2)), (557, gn, e_RF, N1)) ∧ ((¬ r2 = 0 → e_G X (d + 1) YX11_skips 19 [some (.inr (.inr 64)), some (.inl p1), some (.inl p2), some (.inl p3), none, none] [.inl 0, .inr (.inr 64)] (557, gn, e_RF, N1) o) ∧ (r2 = 0 → e_G X (d + 1) YX11_skips 19 [some (.inr (.inr 64)), some (.inl p1), some (.inl p2), some (.inl p3), none, none] [.inl 1, .inr (.inr 64)] (557, gn, e_RF, N1) o)))) : e_G X (d + 1) YX11_skips 0 [some (.inr (.inr 64)), some (.inl p1), some (.inl p2), some (.inl p3), none, none] [] (557, gn, e_RF, M) o := by
  refine e_r_aload_n (pc' := 1) (by decide) dX11_skips_0 rfl rfl rfl ?_
  refine e_r_iconst (pc' := 2) dX11_skips_1 rfl (by decide) ?_
  refine e_r_puti (k := 0) (pc' := 5) cl_11 rfl (Nat.le_of_ble_eq_true rfl) rfl rfl fl_RX11_97 rfl (by decide +kernel) dX11_skips_2 rfl ?_
  refine e_r_aload_n (pc' := 6) (by decide) dX11_skips_5 rfl rfl rfl ?_
  refine e_r_aload_n (pc' := 7) (by decide) dX11_skips_6 rfl rfl rfl ?_
  refine e_r_iload_n (pc' := 8) dX11_skips_7 rfl rfl rfl ?_
  obtain ⟨r2, N1, he3, h⟩ := h
  refine e_r_callV (a := 64) (av := [.inl p1]) (st := [.inr (.inr 64)]) mqYX11_isPerson ml_RX11_325 cl_11 rfl (Nat.le_of_ble_eq_true rfl) (by simp [e_cat]) rfl rfl rfl dX11_skips_8 (pc' := 11) rfl he3 ⟨Nat.le_refl _, Nat.le_refl _⟩ hmo ?_
  obtain ⟨ht4, hf5⟩ := h
  refine e_r_if_ne (tgt := 18) (pc' := 14) dX11_skips_11 rfl rfl (fun c => ?_) (fun c => ?_)
  · have h := ht4 c
    refine e_r_iconst (pc' := 19) dX11_skips_18 rfl (by decide) ?_
    exact h
  · have h := hf5 c
    refine e_r_iconst (pc' := 15) dX11_skips_14 rfl (by decide) ?_
    refine e_r_goto (pc' := 19) dX11_skips_15 rfl ?_
    exact h
theorem wp_X11_skips_19 {X : e_X} {d gn : Nat} {o : e_O} (M : e_M) (p1 p2 p3 w0 : Int) (hmo : e_mn (557, gn, e_RF, M) o.2) (h : (∃ (r2 : Int) (N1 : e_M), e_E X d YX11_bad [.inr (.inr 64), .inl w0, .inl 1, .inl 0] (557, gn, e_RF, M) (.inl (some (.inl r2)), (557, gn, e_RF, N1)) ∧ ((¬ r2 = 0 → (o = (.inl (some (.inl 0)), (557, gn, e_RF, N1)))) ∧ (r2 = 0 → (∃ (r7 : Int) (N6 : e_M), e_E X d YX11_in [.inl p2, .inl 0, .inl 10] (557, gn, e_RF, N1) (.inl (some (.inl r7)), (557, gn, e_RF, N6)) ∧ ((r7 = 0 → e_G X (d + 1) YX11_skips 47 [some (.inr (.inr 64)), some (.inl p1), some (.inl p2), some (.inl p3), none, none] [.inr (.inr 64)] (557, gn, e_RF, N6) o) ∧ (¬ (r7 = 0) → (∃ (r12 : Int) (N11 : e_M), e_E X d YX11_in [.inl p3, .inl 0, .inl 1] (557, gn, e_RF, N6) (.inl (some (.inl r12)), (557, gn, e_RF, N11)) ∧ ((¬ r12 = 0 → e_G X (d + 1) YX11_skips 52 [some (.inr (.inr 64)), some (.inl p1), some (.inl p2), some (.inl p3), none, none] [.inl 0, .inr (.inr 64)] (557, gn, e_RF, N11) o) ∧ (r12 = 0 → e_G X (d + 1) YX11_skips 47 [some (.inr (.inr 64)), some (.inl p1), some (.inl p2), some (.inl p3), none, none] [.inr (.inr 64)] (557, gn, e_RF, N11) o)))))))))) : e_G X (d + 1) YX11_skips 19 [some (.inr (.inr 64)), some (.inl p1), some (.inl p2), some (.inl p3), none, none] [.inl w0, .inr (.inr 64)] (557, gn, e_RF, M) o := by
  refine e_r_iconst (pc' := 20) dX11_skips_19 rfl (by decide) ?_
  refine e_r_iconst (pc' := 21) dX11_skips_20 rfl (by decide) ?_
  obtain ⟨r2, N1, he3, h⟩ := h
  refine e_r_callV (a := 64) (av := [.inl w0, .inl 1, .inl 0]) (st := []) mqYX11_bad ml_RX11_173 cl_11 rfl (Nat.le_of_ble_eq_true rfl) (by simp [e_cat]) rfl rfl rfl dX11_skips_21 (pc' := 24) rfl he3 ⟨Nat.le_refl _, Nat.le_refl _⟩ hmo ?_
  obtain ⟨ht4, hf5⟩ := h
  refine e_r_if_ne (tgt := 60) (pc' := 27) dX11_skips_24 rfl rfl (fun c => ?_) (fun c => ?_)
  · have h := ht4 c
    refine e_r_iconst (pc' := 61) dX11_skips_60 rfl (by decide) ?_
    exact e_r_iret (ty := .int) rfl (e_nI _) dX11_skips_61 h
  · have h := hf5 c
    refine e_r_aload_n (pc' := 28) (by decide) dX11_skips_27 rfl rfl rfl ?_
    refine e_r_iload_n (pc' := 29) dX11_skips_28 rfl rfl rfl ?_
    refine e_r_iconst (pc' := 30) dX11_skips_29 rfl (by decide) ?_
    refine e_r_bipush (pc' := 32) dX11_skips_30 rfl (by decide) ?_
    obtain ⟨r7, N6, he8, h⟩ := h
    refine e_r_callS (av := [.inl p2, .inl 0, .inl 10]) (st := [.inr (.inr 64)]) mqYX11_in ml_RX11_131 (by simp [e_cat]) rfl rfl rfl dX11_skips_32 (pc' := 35) rfl he8 ⟨Nat.le_refl _, Nat.le_refl _⟩ hmo ?_
    obtain ⟨ht9, hf10⟩ := h
    refine e_r_if_eq (tgt := 47) (pc' := 38) dX11_skips_35 rfl rfl (fun c => ?_) (fun c => ?_)
    · have h := ht9 c
      exact h
    · have h := hf10 c
      refine e_r_iload_n (pc' := 39) dX11_skips_38 rfl rfl rfl ?_
      refine e_r_iconst (pc' := 40) dX11_skips_39 rfl (by decide) ?_
      refine e_r_iconst (pc' := 41) dX11_skips_40 rfl (by decide) ?_
      obtain ⟨r12, N11, he13, h⟩ := h
      refine e_r_callS (av := [.inl p3, .inl 0, .inl 1]) (st := [.inr (.inr 64)]) mqYX11_in ml_RX11_131 (by simp [e_cat]) rfl rfl rfl dX11_skips_41 (pc' := 44) rfl he13 ⟨Nat.le_refl _, Nat.le_refl _⟩ hmo ?_
      obtain ⟨ht14, hf15⟩ := h
      refine e_r_if_ne (tgt := 51) (pc' := 47) dX11_skips_44 rfl rfl (fun c => ?_) (fun c => ?_)
      · have h := ht14 c
        refine e_r_iconst (pc' := 52) dX11_skips_51 rfl (by decide) ?_
        exact h
      · have h := hf15 c
        exact h
theorem wp_X11_skips_52 {X : e_X} {d gn : Nat} {o : e_O} (M : e_M) (p1 p2 p3 w0 : Int) (hmo : e_mn (557, gn, e_RF, M) o.2) (h : (∃ (r2 : Int) (N1 : e_M), e_E X d YX11_bad [.inr (.inr 64), .inl w0, .inl 2, .inl 1] (557, gn, e_RF, M) (.inl (some (.inl r2)), (557, gn, e_RF, N1)) ∧ ((r2 = 0 → e_G X (d + 1) YX11_skips 72 [some (.inr (.inr 64)), some (.inl p1), some (.inl p2), some (.inl p3), some (.inl 0), some (.inl (e_w ((e_shl 1 p2) - 1)))] [] (557, gn, e_RF, N1) o) ∧ (¬ (r2 = 0) → (o = (.inl (some (.inl 0)), (557, gn, e_RF, N1))))))) : e_G X (d + 1) YX11_skips 52 [some (.inr (.inr 64)), some (.inl p1), some (.inl p2), some (.inl p3), none, none] [.inl w0, .inr (.inr 64)] (557, gn, e_RF, M) o := by
  refine e_r_iconst (pc' := 53) dX11_skips_52 rfl (by decide) ?_
  refine e_r_iconst (pc' := 54) dX11_skips_53 rfl (by decide) ?_
  obtain ⟨r2, N1, he3, h⟩ := h
  refine e_r_callV (a := 64) (av := [.inl w0, .inl 2, .inl 1]) (st := []) mqYX11_bad ml_RX11_173 cl_11 rfl (Nat.le_of_ble_eq_true rfl) (by simp [e_cat]) rfl rfl rfl dX11_skips_54 (pc' := 57) rfl he3 ⟨Nat.le_refl _, Nat.le_refl _⟩ hmo ?_
  obtain ⟨ht4, hf5⟩ := h
  refine e_r_if_eq (tgt := 62) (pc' := 60) dX11_skips_57 rfl rfl (fun c => ?_) (fun c => ?_)
  · have h := ht4 c
    refine e_r_iconst (pc' := 63) dX11_skips_62 rfl (by decide) ?_
    refine e_r_istore (pc' := 65) (loc' := [some (.inr (.inr 64)), some (.inl p1), some (.inl p2), some (.inl p3), some (.inl 0), none]) dX11_skips_63 rfl rfl rfl rfl ?_
    refine e_r_iconst (pc' := 66) dX11_skips_65 rfl (by decide) ?_
    refine e_r_iload_n (pc' := 67) dX11_skips_66 rfl rfl rfl ?_
    refine e_r_ishl (pc' := 68) dX11_skips_67 rfl ?_
    refine e_r_iconst (pc' := 69) dX11_skips_68 rfl (by decide) ?_
    refine e_r_isub (pc' := 70) dX11_skips_69 rfl ?_
    refine e_r_istore (pc' := 72) (loc' := [some (.inr (.inr 64)), some (.inl p1), some (.inl p2), some (.inl p3), some (.inl 0), some (.inl (e_w ((e_shl 1 p2) - 1)))]) dX11_skips_70 rfl rfl rfl rfl ?_
    exact h
  · have h := hf5 c
    refine e_r_iconst (pc' := 61) dX11_skips_60 rfl (by decide) ?_
    exact e_r_iret (ty := .int) rfl (e_nI _) dX11_skips_61 h
theorem wp_X11_skips_72 {X : e_X} {d gn : Nat} {o : e_O} (M : e_M) (p1 p2 p3 v4 v5 : Int) (hmo : e_mn (557, gn, e_RF, M) o.2) (h : ((v5 < 0 → ((¬ p3 = 1 → (∃ (r6 : Int) (N5 : e_M), e_E X d YX11_ones [.inl v4] (557, gn, e_RF, M) (.inl (some (.inl r6)), (557, gn, e_RF, N5)) ∧ (o = (.inl (some (.inl r6)), (557, gn, e_RF, N5))))) ∧ (p3 = 1 → (o = (.inl (some (.inl v4)), (557, gn, e_RF, M)))))) ∧ (¬ (v5 < 0) → (∃ (r9 : Int) (N8 : e_M), e_E X d YX11_ones [.inl v5] (557, gn, e_RF, M) (.inl (some (.inl r9)), (557, gn, e_RF, N8)) ∧ (∃ (r12 : Int) (N11 : e_M), e_E X d YX11_ones [.inl v4] (557, gn, e_RF, N8) (.inl (some (.inl r12)), (557, gn, e_RF, N11)) ∧ ((r9 < r12 → e_G X (d + 1) YX11_skips 72 [some (.inr (.inr 64)), some (.inl p1), some (.inl p2), some (.inl p3), some (.inl v4), some (.inl (e_w (v5 + (-1))))] [] (557, gn, e_RF, N11) o) ∧ (¬ (r9 < r12) → (∃ (r17 : Int) (N16 : e_M), e_E X d YX11_isPaid [.inr (.inr 64), .inl p1, .inl p2, .inl v5] (557, gn, e_RF, N11) (.inl (some (.inl r17)), (557, gn, e_RF, N16)) ∧ ((r17 = 0 → e_G X (d + 1) YX11_skips 72 [some (.inr (.inr 64)), some (.inl p1), some (.inl p2), some (.inl p3), some (.inl v4), some (.inl (e_w (v5 + (-1))))] [] (557, gn, e_RF, N16) o) ∧ (¬ (r17 = 0) → e_G X (d + 1) YX11_skips 72 [some (.inr (.inr 64)), some (.inl p1), some (.inl p2), some (.inl p3), some (.inl v5), some (.inl (e_w (v5 + (-1))))] [] (557, gn, e_RF, N16) o)))))))))) : e_G X (d + 1) YX11_skips 72 [some (.inr (.inr 64)), some (.inl p1), some (.inl p2), some (.inl p3), some (.inl v4), some (.inl v5)] [] (557, gn, e_RF, M) o := by
  refine e_r_iload (pc' := 74) dX11_skips_72 rfl rfl ?_
  obtain ⟨ht1, hf2⟩ := h
  refine e_r_if_lt (tgt := 111) (pc' := 77) dX11_skips_74 rfl rfl (fun c => ?_) (fun c => ?_)
  · have h := ht1 c
    refine e_r_iload_n (pc' := 112) dX11_skips_111 rfl rfl rfl ?_
    refine e_r_iconst (pc' := 113) dX11_skips_112 rfl (by decide) ?_
    obtain ⟨ht3, hf4⟩ := h
    refine e_r_icmp_ne (tgt := 121) (pc' := 116) dX11_skips_113 rfl rfl (fun c => ?_) (fun c => ?_)
    · have h := ht3 c
      refine e_r_iload (pc' := 123) dX11_skips_121 rfl rfl ?_
      obtain ⟨r6, N5, he7, h⟩ := h
      refine e_r_callS (av := [.inl v4]) (st := []) mqYX11_ones ml_RX11_272 (by simp [e_cat]) rfl rfl rfl dX11_skips_123 (pc' := 126) rfl he7 ⟨Nat.le_refl _, Nat.le_refl _⟩ hmo ?_
      exact e_r_iret (ty := .int) rfl (e_nI _) dX11_skips_126 h
    · have h := hf4 c
      refine e_r_iload (pc' := 118) dX11_skips_116 rfl rfl ?_
      refine e_r_goto (pc' := 126) dX11_skips_118 rfl ?_
      exact e_r_iret (ty := .int) rfl (e_nI _) dX11_skips_126 h
  · have h := hf2 c
    refine e_r_iload (pc' := 79) dX11_skips_77 rfl rfl ?_
    obtain ⟨r9, N8, he10, h⟩ := h
    refine e_r_callS (av := [.inl v5]) (st := []) mqYX11_ones ml_RX11_272 (by simp [e_cat]) rfl rfl rfl dX11_skips_79 (pc' := 82) rfl he10 ⟨Nat.le_refl _, Nat.le_refl _⟩ hmo ?_
    refine e_r_iload (pc' := 84) dX11_skips_82 rfl rfl ?_
    obtain ⟨r12, N11, he13, h⟩ := h
    refine e_r_callS (av := [.inl v4]) (st := [.inl r9]) mqYX11_ones ml_RX11_272 (by simp [e_cat]) rfl rfl rfl dX11_skips_84 (pc' := 87) rfl he13 ⟨Nat.le_refl _, Nat.le_refl _⟩ hmo ?_
    obtain ⟨ht14, hf15⟩ := h
    refine e_r_icmp_lt (tgt := 105) (pc' := 90) dX11_skips_87 rfl rfl (fun c => ?_) (fun c => ?_)
    · have h := ht14 c
      refine e_r_iinc (pc' := 108) (loc' := [some (.inr (.inr 64)), some (.inl p1), some (.inl p2), some (.inl p3), some (.inl v4), some (.inl (e_w (v5 + (-1))))]) dX11_skips_105 rfl rfl rfl rfl rfl ?_
      refine e_r_goto (pc' := 72) dX11_skips_108 rfl ?_
      exact h
    · have h := hf15 c
      refine e_r_aload_n (pc' := 91) (by decide) dX11_skips_90 rfl rfl rfl ?_
      refine e_r_iload_n (pc' := 92) dX11_skips_91 rfl rfl rfl ?_
      refine e_r_iload_n (pc' := 93) dX11_skips_92 rfl rfl rfl ?_
      refine e_r_iload (pc' := 95) dX11_skips_93 rfl rfl ?_
      obtain ⟨r17, N16, he18, h⟩ := h
      refine e_r_callV (a := 64) (av := [.inl p1, .inl p2, .inl v5]) (st := []) mqYX11_isPaid ml_RX11_338 cl_11 rfl (Nat.le_of_ble_eq_true rfl) (by simp [e_cat]) rfl rfl rfl dX11_skips_95 (pc' := 98) rfl he18 ⟨Nat.le_refl _, Nat.le_refl _⟩ hmo ?_
      obtain ⟨ht19, hf20⟩ := h
      refine e_r_if_eq (tgt := 105) (pc' := 101) dX11_skips_98 rfl rfl (fun c => ?_) (fun c => ?_)
      · have h := ht19 c
        refine e_r_iinc (pc' := 108) (loc' := [some (.inr (.inr 64)), some (.inl p1), some (.inl p2), some (.inl p3), some (.inl v4), some (.inl (e_w (v5 + (-1))))]) dX11_skips_105 rfl rfl rfl rfl rfl ?_
        refine e_r_goto (pc' := 72) dX11_skips_108 rfl ?_
        exact h
      · have h := hf20 c
        refine e_r_iload (pc' := 103) dX11_skips_101 rfl rfl ?_
        refine e_r_istore (pc' := 105) (loc' := [some (.inr (.inr 64)), some (.inl p1), some (.inl p2), some (.inl p3), some (.inl v5), some (.inl v5)]) dX11_skips_103 rfl rfl rfl rfl ?_
        refine e_r_iinc (pc' := 108) (loc' := [some (.inr (.inr 64)), some (.inl p1), some (.inl p2), some (.inl p3), some (.inl v5), some (.inl (e_w (v5 + (-1))))]) dX11_skips_105 rfl rfl rfl rfl rfl ?_
        refine e_r_goto (pc' := 72) dX11_skips_108 rfl ?_
        exact h
theorem wp_X11_skips_47 {X : e_X} {d gn : Nat} {o : e_O} (M : e_M) (p1 p2 p3 : Int) (h : e_G X (d + 1) YX11_skips 52 [some (.inr (.inr 64)), some (.inl p1), some (.inl p2), some (.inl p3), none, none] [.inl 1, .inr (.inr 64)] (557, gn, e_RF, M) o) : e_G X (d + 1) YX11_skips 47 [some (.inr (.inr 64)), some (.inl p1), some (.inl p2), some (.inl p3), none, none] [.inr (.inr 64)] (557, gn, e_RF, M) o := by
  refine e_r_iconst (pc' := 48) dX11_skips_47 rfl (by decide) ?_
  refine e_r_goto (pc' := 52) dX11_skips_48 rfl ?_
  exact h
theorem wp_X11_hadBy_0 {X : e_X} {d gn : Nat} {o : e_O} (M : e_M) (p1 p2 : Int) (h : e_G X (d + 1) YX11_hadBy 2 [some (.inr (.inr 64)), some (.inl p1), some (.inl p2), some (.inl 0)] [] (557, gn, e_RF, M) o) : e_G X (d + 1) YX11_hadBy 0 [some (.inr (.inr 64)), some (.inl p1), some (.inl p2), none] [] (557, gn, e_RF, M) o := by
  refine e_r_iconst (pc' := 1) dX11_hadBy_0 rfl (by decide) ?_
  refine e_r_istore_n (pc' := 2) (loc' := [some (.inr (.inr 64)), some (.inl p1), some (.inl p2), some (.inl 0)]) dX11_hadBy_1 rfl rfl rfl rfl rfl ?_
  exact h
theorem wp_X11_hadBy_2 {X : e_X} {d gn : Nat} {o : e_O} (M : e_M) (p1 p2 v3 : Int) (hmo : e_mn (557, gn, e_RF, M) o.2) (h : (((M 64 35) ≤ v3 → (o = (.inl (some (.inl (-1))), (557, gn, e_RF, M)))) ∧ (¬ ((M 64 35) ≤ v3) → ((0 ≤ v3 ∧ v3 < 6) ∧ ((¬ (M (436 + v3.toNat) 0) = p1 → e_G X (d + 1) YX11_hadBy 2 [some (.inr (.inr 64)), some (.inl p1), some (.inl p2), some (.inl (e_w (v3 + 1)))] [] (557, gn, e_RF, M) o) ∧ ((M (436 + v3.toNat) 0) = p1 → ((0 ≤ v3 ∧ v3 < 6) ∧ (∃ (r8 : Int) (N7 : e_M), e_E X d YX11_in [.inl (e_w ((M (436 + v3.toNat) 1) - (e_w (6 * p2)))), .inl 0, .inl p2] (557, gn, e_RF, M) (.inl (some (.inl r8)), (557, gn, e_RF, N7)) ∧ ((r8 = 0 → (o = (.inl (some (.inl (e_w (p2 + 1)))), (557, gn, e_RF, N7)))) ∧ (¬ (r8 = 0) → ((0 ≤ v3 ∧ v3 < 6) ∧ (o = (.inl (some (.inl (e_w ((N7 (436 + v3.toNat) 1) - (e_w (6 * p2)))))), (557, gn, e_RF, N7)))))))))))))) : e_G X (d + 1) YX11_hadBy 2 [some (.inr (.inr 64)), some (.inl p1), some (.inl p2), some (.inl v3)] [] (557, gn, e_RF, M) o := by
  refine e_r_iload_n (pc' := 3) dX11_hadBy_2 rfl rfl rfl ?_
  refine e_r_aload_n (pc' := 4) (by decide) dX11_hadBy_3 rfl rfl rfl ?_
  refine e_r_geti (k := 35) (pc' := 7) cl_11 rfl (Nat.le_of_ble_eq_true rfl) rfl rfl fl_RX11_193 dX11_hadBy_4 rfl ?_
  obtain ⟨ht1, hf2⟩ := h
  refine e_r_icmp_ge (tgt := 69) (pc' := 10) dX11_hadBy_7 rfl rfl (fun c => ?_) (fun c => ?_)
  · have h := ht1 c
    refine e_r_iconst (pc' := 70) dX11_hadBy_69 rfl (by decide) ?_
    exact e_r_iret (ty := .int) rfl (e_nI _) dX11_hadBy_70 h
  · have h := hf2 c
    refine e_r_aload_n (pc' := 11) (by decide) dX11_hadBy_10 rfl rfl rfl ?_
    refine e_r_getr (k := 25) (q := 435) (pc' := 14) cl_11 rfl (Nat.le_of_ble_eq_true rfl) rfl rfl fl_RX11_58 rfl (Nat.le_of_ble_eq_true rfl) dX11_hadBy_11 rfl ?_
    refine e_r_iload_n (pc' := 15) dX11_hadBy_14 rfl rfl rfl ?_
    obtain ⟨hb3, h⟩ := h
    refine e_r_aldr (q := (436 + v3.toNat)) (pc' := 16) rfl (Nat.le_of_ble_eq_true rfl) hb3.1 hb3.2 rfl (sh_435 hb3.1 hb3.2).2.1 dX11_hadBy_15 rfl ?_
    refine e_r_iconst (pc' := 17) dX11_hadBy_16 rfl (by decide) ?_
    refine e_r_iald (j9 := 0) (pc' := 18) (sh_435 hb3.1 hb3.2).1 (sh_435 hb3.1 hb3.2).2.1 (by decide) (by decide) rfl dX11_hadBy_17 rfl ?_
    refine e_r_iload_n (pc' := 19) dX11_hadBy_18 rfl rfl rfl ?_
    obtain ⟨ht4, hf5⟩ := h
    refine e_r_icmp_ne (tgt := 63) (pc' := 22) dX11_hadBy_19 rfl rfl (fun c => ?_) (fun c => ?_)
    · have h := ht4 c
      refine e_r_iinc (pc' := 66) (loc' := [some (.inr (.inr 64)), some (.inl p1), some (.inl p2), some (.inl (e_w (v3 + 1)))]) dX11_hadBy_63 rfl rfl rfl rfl rfl ?_
      refine e_r_goto (pc' := 2) dX11_hadBy_66 rfl ?_
      exact h
    · have h := hf5 c
      refine e_r_aload_n (pc' := 23) (by decide) dX11_hadBy_22 rfl rfl rfl ?_
      refine e_r_getr (k := 25) (q := 435) (pc' := 26) cl_11 rfl (Nat.le_of_ble_eq_true rfl) rfl rfl fl_RX11_58 rfl (Nat.le_of_ble_eq_true rfl) dX11_hadBy_23 rfl ?_
      refine e_r_iload_n (pc' := 27) dX11_hadBy_26 rfl rfl rfl ?_
      obtain ⟨hb6, h⟩ := h
      refine e_r_aldr (q := (436 + v3.toNat)) (pc' := 28) rfl (Nat.le_of_ble_eq_true rfl) hb6.1 hb6.2 rfl (sh_435 hb6.1 hb6.2).2.1 dX11_hadBy_27 rfl ?_
      refine e_r_iconst (pc' := 29) dX11_hadBy_28 rfl (by decide) ?_
      refine e_r_iald (j9 := 1) (pc' := 30) (sh_435 hb6.1 hb6.2).1 (sh_435 hb6.1 hb6.2).2.1 (by decide) (by decide) rfl dX11_hadBy_29 rfl ?_
      refine e_r_bipush (pc' := 32) dX11_hadBy_30 rfl (by decide) ?_
      refine e_r_iload_n (pc' := 33) dX11_hadBy_32 rfl rfl rfl ?_
      refine e_r_imul (pc' := 34) dX11_hadBy_33 rfl ?_
      refine e_r_isub (pc' := 35) dX11_hadBy_34 rfl ?_
      refine e_r_iconst (pc' := 36) dX11_hadBy_35 rfl (by decide) ?_
      refine e_r_iload_n (pc' := 37) dX11_hadBy_36 rfl rfl rfl ?_
      obtain ⟨r8, N7, he9, h⟩ := h
      refine e_r_callS (av := [.inl (e_w ((M (436 + v3.toNat) 1) - (e_w (6 * p2)))), .inl 0, .inl p2]) (st := []) mqYX11_in ml_RX11_131 (by simp [e_cat]) rfl rfl rfl dX11_hadBy_37 (pc' := 40) rfl he9 ⟨Nat.le_refl _, Nat.le_refl _⟩ hmo ?_
      obtain ⟨ht10, hf11⟩ := h
      refine e_r_if_eq (tgt := 59) (pc' := 43) dX11_hadBy_40 rfl rfl (fun c => ?_) (fun c => ?_)
      · have h := ht10 c
        refine e_r_iload_n (pc' := 60) dX11_hadBy_59 rfl rfl rfl ?_
        refine e_r_iconst (pc' := 61) dX11_hadBy_60 rfl (by decide) ?_
        refine e_r_iadd (pc' := 62) dX11_hadBy_61 rfl ?_
        exact e_r_iret (ty := .int) rfl (e_nI _) dX11_hadBy_62 h
      · have h := hf11 c
        refine e_r_aload_n (pc' := 44) (by decide) dX11_hadBy_43 rfl rfl rfl ?_
        refine e_r_getr (k := 25) (q := 435) (pc' := 47) cl_11 rfl (Nat.le_of_ble_eq_true rfl) rfl rfl fl_RX11_58 rfl (Nat.le_of_ble_eq_true rfl) dX11_hadBy_44 rfl ?_
        refine e_r_iload_n (pc' := 48) dX11_hadBy_47 rfl rfl rfl ?_
        obtain ⟨hb12, h⟩ := h
        refine e_r_aldr (q := (436 + v3.toNat)) (pc' := 49) rfl (Nat.le_of_ble_eq_true rfl) hb12.1 hb12.2 rfl (sh_435 hb12.1 hb12.2).2.1 dX11_hadBy_48 rfl ?_
        refine e_r_iconst (pc' := 50) dX11_hadBy_49 rfl (by decide) ?_
        refine e_r_iald (j9 := 1) (pc' := 51) (sh_435 hb12.1 hb12.2).1 (sh_435 hb12.1 hb12.2).2.1 (by decide) (by decide) rfl dX11_hadBy_50 rfl ?_
        refine e_r_bipush (pc' := 53) dX11_hadBy_51 rfl (by decide) ?_
        refine e_r_iload_n (pc' := 54) dX11_hadBy_53 rfl rfl rfl ?_
        refine e_r_imul (pc' := 55) dX11_hadBy_54 rfl ?_
        refine e_r_isub (pc' := 56) dX11_hadBy_55 rfl ?_
        refine e_r_goto (pc' := 62) dX11_hadBy_56 rfl ?_
        exact e_r_iret (ty := .int) rfl (e_nI _) dX11_hadBy_62 h
theorem wp_X11_choose_0 {X : e_X} {d gn : Nat} {o : e_O} (M : e_M) (p0 p1 : Int) (h : e_G X d YX11_choose 4 [some (.inl p0), some (.inl p1), some (.inl 1), some (.inl 1)] [] (557, gn, e_RF, M) o) : e_G X d YX11_choose 0 [some (.inl p0), some (.inl p1), none, none] [] (557, gn, e_RF, M) o := by
  refine e_r_iconst (pc' := 1) dX11_choose_0 rfl (by decide) ?_
  refine e_r_istore_n (pc' := 2) (loc' := [some (.inl p0), some (.inl p1), some (.inl 1), none]) dX11_choose_1 rfl rfl rfl rfl rfl ?_
  refine e_r_iconst (pc' := 3) dX11_choose_2 rfl (by decide) ?_
  refine e_r_istore_n (pc' := 4) (loc' := [some (.inl p0), some (.inl p1), some (.inl 1), some (.inl 1)]) dX11_choose_3 rfl rfl rfl rfl rfl ?_
  exact h
theorem wp_X11_choose_4 {X : e_X} {d gn : Nat} {o : e_O} (M : e_M) (p0 p1 v2 v3 : Int) (h : ((p1 < v3 → (o = (.inl (some (.inl v2)), (557, gn, e_RF, M)))) ∧ (¬ (p1 < v3) → (v3 ≠ 0 ∧ e_G X d YX11_choose 4 [some (.inl p0), some (.inl p1), some (.inl (e_w (Int.tdiv (e_w (v2 * (e_w ((e_w (p0 - p1)) + v3)))) v3))), some (.inl (e_w (v3 + 1)))] [] (557, gn, e_RF, M) o)))) : e_G X d YX11_choose 4 [some (.inl p0), some (.inl p1), some (.inl v2), some (.inl v3)] [] (557, gn, e_RF, M) o := by
  refine e_r_iload_n (pc' := 5) dX11_choose_4 rfl rfl rfl ?_
  refine e_r_iload_n (pc' := 6) dX11_choose_5 rfl rfl rfl ?_
  obtain ⟨ht1, hf2⟩ := h
  refine e_r_icmp_gt (tgt := 25) (pc' := 9) dX11_choose_6 rfl rfl (fun c => ?_) (fun c => ?_)
  · have h := ht1 c
    refine e_r_iload_n (pc' := 26) dX11_choose_25 rfl rfl rfl ?_
    exact e_r_iret (ty := .int) rfl (e_nI _) dX11_choose_26 h
  · have h := hf2 c
    refine e_r_iload_n (pc' := 10) dX11_choose_9 rfl rfl rfl ?_
    refine e_r_iload_n (pc' := 11) dX11_choose_10 rfl rfl rfl ?_
    refine e_r_iload_n (pc' := 12) dX11_choose_11 rfl rfl rfl ?_
    refine e_r_isub (pc' := 13) dX11_choose_12 rfl ?_
    refine e_r_iload_n (pc' := 14) dX11_choose_13 rfl rfl rfl ?_
    refine e_r_iadd (pc' := 15) dX11_choose_14 rfl ?_
    refine e_r_imul (pc' := 16) dX11_choose_15 rfl ?_
    refine e_r_iload_n (pc' := 17) dX11_choose_16 rfl rfl rfl ?_
    obtain ⟨hz3, h⟩ := h
    refine e_r_idiv (pc' := 18) hz3 dX11_choose_17 rfl ?_
    refine e_r_istore_n (pc' := 19) (loc' := [some (.inl p0), some (.inl p1), some (.inl (e_w (Int.tdiv (e_w (v2 * (e_w ((e_w (p0 - p1)) + v3)))) v3))), some (.inl v3)]) dX11_choose_18 rfl rfl rfl rfl rfl ?_
    refine e_r_iinc (pc' := 22) (loc' := [some (.inl p0), some (.inl p1), some (.inl (e_w (Int.tdiv (e_w (v2 * (e_w ((e_w (p0 - p1)) + v3)))) v3))), some (.inl (e_w (v3 + 1)))]) dX11_choose_19 rfl rfl rfl rfl rfl ?_
    refine e_r_goto (pc' := 4) dX11_choose_22 rfl ?_
    exact h
theorem wp_X11_apart_0 {X : e_X} {d gn : Nat} {o : e_O} (M : e_M) (p1 p2 p3 : Int) (hmo : e_mn (557, gn, e_RF, M) o.2) (h : (∃ (r2 : Int) (N1 : e_M), e_E X d YX11_isPerson [.inr (.inr 64), .inl p1] (557, gn, e_RF, (e_up M 64 0 0)) (.inl (some (.inl r2)), (557, gn, e_RF, N1)) ∧ ((r2 = 0 → e_G X (d + 1) YX11_apart 22 [some (.inr (.inr 64)), some (.inl p1), some (.inl p2), some (.inl p3), none, none] [.inr (.inr 64)] (557, gn, e_RF, N1) o) ∧ (¬ (r2 = 0) → (∃ (r7 : Int) (N6 : e_M), e_E X d YX11_isPerson [.inr (.inr 64), .inl p2] (557, gn, e_RF, N1) (.inl (some (.inl r7)), (557, gn, e_RF, N6)) ∧ ((¬ r7 = 0 → e_G X (d + 1) YX11_apart 27 [some (.inr (.inr 64)), some (.inl p1), some (.inl p2), some (.inl p3), none, none] [.inl 0, .inr (.inr 64)] (557, gn, e_RF, N6) o) ∧ (r7 = 0 → e_G X (d + 1) YX11_apart 22 [some (.inr (.inr 64)), some (.inl p1), some (.inl p2), some (.inl p3), none, none] [.inr (.inr 64)] (557, gn, e_RF, N6) o))))))) : e_G X (d + 1) YX11_apart 0 [some (.inr (.inr 64)), some (.inl p1), some (.inl p2), some (.inl p3), none, none] [] (557, gn, e_RF, M) o := by
  refine e_r_aload_n (pc' := 1) (by decide) dX11_apart_0 rfl rfl rfl ?_
  refine e_r_iconst (pc' := 2) dX11_apart_1 rfl (by decide) ?_
  refine e_r_puti (k := 0) (pc' := 5) cl_11 rfl (Nat.le_of_ble_eq_true rfl) rfl rfl fl_RX11_97 rfl (by decide +kernel) dX11_apart_2 rfl ?_
  refine e_r_aload_n (pc' := 6) (by decide) dX11_apart_5 rfl rfl rfl ?_
  refine e_r_aload_n (pc' := 7) (by decide) dX11_apart_6 rfl rfl rfl ?_
  refine e_r_iload_n (pc' := 8) dX11_apart_7 rfl rfl rfl ?_
  obtain ⟨r2, N1, he3, h⟩ := h
  refine e_r_callV (a := 64) (av := [.inl p1]) (st := [.inr (.inr 64)]) mqYX11_isPerson ml_RX11_325 cl_11 rfl (Nat.le_of_ble_eq_true rfl) (by simp [e_cat]) rfl rfl rfl dX11_apart_8 (pc' := 11) rfl he3 ⟨Nat.le_refl _, Nat.le_refl _⟩ hmo ?_
  obtain ⟨ht4, hf5⟩ := h
  refine e_r_if_eq (tgt := 22) (pc' := 14) dX11_apart_11 rfl rfl (fun c => ?_) (fun c => ?_)
  · have h := ht4 c
    exact h
  · have h := hf5 c
    refine e_r_aload_n (pc' := 15) (by decide) dX11_apart_14 rfl rfl rfl ?_
    refine e_r_iload_n (pc' := 16) dX11_apart_15 rfl rfl rfl ?_
    obtain ⟨r7, N6, he8, h⟩ := h
    refine e_r_callV (a := 64) (av := [.inl p2]) (st := [.inr (.inr 64)]) mqYX11_isPerson ml_RX11_325 cl_11 rfl (Nat.le_of_ble_eq_true rfl) (by simp [e_cat]) rfl rfl rfl dX11_apart_16 (pc' := 19) rfl he8 ⟨Nat.le_refl _, Nat.le_refl _⟩ hmo ?_
    obtain ⟨ht9, hf10⟩ := h
    refine e_r_if_ne (tgt := 26) (pc' := 22) dX11_apart_19 rfl rfl (fun c => ?_) (fun c => ?_)
    · have h := ht9 c
      refine e_r_iconst (pc' := 27) dX11_apart_26 rfl (by decide) ?_
      exact h
    · have h := hf10 c
      exact h
theorem wp_X11_apart_27 {X : e_X} {d gn : Nat} {o : e_O} (M : e_M) (p1 p2 p3 w0 : Int) (hmo : e_mn (557, gn, e_RF, M) o.2) (h : (∃ (r2 : Int) (N1 : e_M), e_E X d YX11_bad [.inr (.inr 64), .inl w0, .inl 1, .inl 0] (557, gn, e_RF, M) (.inl (some (.inl r2)), (557, gn, e_RF, N1)) ∧ ((¬ r2 = 0 → (o = (.inl (some (.inl 0)), (557, gn, e_RF, N1)))) ∧ (r2 = 0 → ((p1 = p2 → e_G X (d + 1) YX11_apart 51 [some (.inr (.inr 64)), some (.inl p1), some (.inl p2), some (.inl p3), none, none] [.inr (.inr 64)] (557, gn, e_RF, N1) o) ∧ (¬ (p1 = p2) → (∃ (r9 : Int) (N8 : e_M), e_E X d YX11_in [.inl p3, .inl 0, .inl 20] (557, gn, e_RF, N1) (.inl (some (.inl r9)), (557, gn, e_RF, N8)) ∧ ((¬ r9 = 0 → e_G X (d + 1) YX11_apart 56 [some (.inr (.inr 64)), some (.inl p1), some (.inl p2), some (.inl p3), none, none] [.inl 0, .inr (.inr 64)] (557, gn, e_RF, N8) o) ∧ (r9 = 0 → e_G X (d + 1) YX11_apart 51 [some (.inr (.inr 64)), some (.inl p1), some (.inl p2), some (.inl p3), none, none] [.inr (.inr 64)] (557, gn, e_RF, N8) o))))))))) : e_G X (d + 1) YX11_apart 27 [some (.inr (.inr 64)), some (.inl p1), some (.inl p2), some (.inl p3), none, none] [.inl w0, .inr (.inr 64)] (557, gn, e_RF, M) o := by
  refine e_r_iconst (pc' := 28) dX11_apart_27 rfl (by decide) ?_
  refine e_r_iconst (pc' := 29) dX11_apart_28 rfl (by decide) ?_
  obtain ⟨r2, N1, he3, h⟩ := h
  refine e_r_callV (a := 64) (av := [.inl w0, .inl 1, .inl 0]) (st := []) mqYX11_bad ml_RX11_173 cl_11 rfl (Nat.le_of_ble_eq_true rfl) (by simp [e_cat]) rfl rfl rfl dX11_apart_29 (pc' := 32) rfl he3 ⟨Nat.le_refl _, Nat.le_refl _⟩ hmo ?_
  obtain ⟨ht4, hf5⟩ := h
  refine e_r_if_ne (tgt := 64) (pc' := 35) dX11_apart_32 rfl rfl (fun c => ?_) (fun c => ?_)
  · have h := ht4 c
    refine e_r_iconst (pc' := 65) dX11_apart_64 rfl (by decide) ?_
    exact e_r_iret (ty := .int) rfl (e_nI _) dX11_apart_65 h
  · have h := hf5 c
    refine e_r_aload_n (pc' := 36) (by decide) dX11_apart_35 rfl rfl rfl ?_
    refine e_r_iload_n (pc' := 37) dX11_apart_36 rfl rfl rfl ?_
    refine e_r_iload_n (pc' := 38) dX11_apart_37 rfl rfl rfl ?_
    obtain ⟨ht6, hf7⟩ := h
    refine e_r_icmp_eq (tgt := 51) (pc' := 41) dX11_apart_38 rfl rfl (fun c => ?_) (fun c => ?_)
    · have h := ht6 c
      exact h
    · have h := hf7 c
      refine e_r_iload_n (pc' := 42) dX11_apart_41 rfl rfl rfl ?_
      refine e_r_iconst (pc' := 43) dX11_apart_42 rfl (by decide) ?_
      refine e_r_bipush (pc' := 45) dX11_apart_43 rfl (by decide) ?_
      obtain ⟨r9, N8, he10, h⟩ := h
      refine e_r_callS (av := [.inl p3, .inl 0, .inl 20]) (st := [.inr (.inr 64)]) mqYX11_in ml_RX11_131 (by simp [e_cat]) rfl rfl rfl dX11_apart_45 (pc' := 48) rfl he10 ⟨Nat.le_refl _, Nat.le_refl _⟩ hmo ?_
      obtain ⟨ht11, hf12⟩ := h
      refine e_r_if_ne (tgt := 55) (pc' := 51) dX11_apart_48 rfl rfl (fun c => ?_) (fun c => ?_)
      · have h := ht11 c
        refine e_r_iconst (pc' := 56) dX11_apart_55 rfl (by decide) ?_
        exact h
      · have h := hf12 c
        exact h
theorem wp_X11_apart_56 {X : e_X} {d gn : Nat} {o : e_O} (M : e_M) (p1 p2 p3 w0 : Int) (hmo : e_mn (557, gn, e_RF, M) o.2) (h : (∃ (r2 : Int) (N1 : e_M), e_E X d YX11_bad [.inr (.inr 64), .inl w0, .inl 2, .inl 1] (557, gn, e_RF, M) (.inl (some (.inl r2)), (557, gn, e_RF, N1)) ∧ ((r2 = 0 → (∃ (r7 : Int) (N6 : e_M), e_E X d YX11_hadBy [.inr (.inr 64), .inl p1, .inl p3] (557, gn, e_RF, N1) (.inl (some (.inl r7)), (557, gn, e_RF, N6)) ∧ (∃ (r10 : Int) (N9 : e_M), e_E X d YX11_hadBy [.inr (.inr 64), .inl p2, .inl p3] (557, gn, e_RF, N6) (.inl (some (.inl r10)), (557, gn, e_RF, N9)) ∧ ((r7 = (-1) → (o = (.inl (some (.inl (-1))), (557, gn, e_RF, N9)))) ∧ (¬ (r7 = (-1)) → ((¬ r10 = (-1) → (((e_w (r7 + r10)) ≤ p3 → (∃ (r19 : Int) (N18 : e_M), e_E X d YX11_choose [.inl p3, .inl r7] (557, gn, e_RF, N9) (.inl (some (.inl r19)), (557, gn, e_RF, N18)) ∧ (∃ (r22 : Int) (N21 : e_M), e_E X d YX11_choose [.inl (e_w (p3 - r7)), .inl r10] (557, gn, e_RF, N18) (.inl (some (.inl r22)), (557, gn, e_RF, N21)) ∧ (o = (.inl (some (.inl (e_w (r19 * r22)))), (557, gn, e_RF, N21)))))) ∧ (¬ ((e_w (r7 + r10)) ≤ p3) → (o = (.inl (some (.inl 0)), (557, gn, e_RF, N9)))))) ∧ (r10 = (-1) → (o = (.inl (some (.inl (-1))), (557, gn, e_RF, N9)))))))))) ∧ (¬ (r2 = 0) → (o = (.inl (some (.inl 0)), (557, gn, e_RF, N1))))))) : e_G X (d + 1) YX11_apart 56 [some (.inr (.inr 64)), some (.inl p1), some (.inl p2), some (.inl p3), none, none] [.inl w0, .inr (.inr 64)] (557, gn, e_RF, M) o := by
  refine e_r_iconst (pc' := 57) dX11_apart_56 rfl (by decide) ?_
  refine e_r_iconst (pc' := 58) dX11_apart_57 rfl (by decide) ?_
  obtain ⟨r2, N1, he3, h⟩ := h
  refine e_r_callV (a := 64) (av := [.inl w0, .inl 2, .inl 1]) (st := []) mqYX11_bad ml_RX11_173 cl_11 rfl (Nat.le_of_ble_eq_true rfl) (by simp [e_cat]) rfl rfl rfl dX11_apart_58 (pc' := 61) rfl he3 ⟨Nat.le_refl _, Nat.le_refl _⟩ hmo ?_
  obtain ⟨ht4, hf5⟩ := h
  refine e_r_if_eq (tgt := 66) (pc' := 64) dX11_apart_61 rfl rfl (fun c => ?_) (fun c => ?_)
  · have h := ht4 c
    refine e_r_aload_n (pc' := 67) (by decide) dX11_apart_66 rfl rfl rfl ?_
    refine e_r_iload_n (pc' := 68) dX11_apart_67 rfl rfl rfl ?_
    refine e_r_iload_n (pc' := 69) dX11_apart_68 rfl rfl rfl ?_
    obtain ⟨r7, N6, he8, h⟩ := h
    refine e_r_callV (a := 64) (av := [.inl p1, .inl p3]) (st := []) mqYX11_hadBy ml_RX11_341 cl_11 rfl (Nat.le_of_ble_eq_true rfl) (by simp [e_cat]) rfl rfl rfl dX11_apart_69 (pc' := 72) rfl he8 ⟨Nat.le_refl _, Nat.le_refl _⟩ hmo ?_
    refine e_r_istore (pc' := 74) (loc' := [some (.inr (.inr 64)), some (.inl p1), some (.inl p2), some (.inl p3), some (.inl r7), none]) dX11_apart_72 rfl rfl rfl rfl ?_
    refine e_r_aload_n (pc' := 75) (by decide) dX11_apart_74 rfl rfl rfl ?_
    refine e_r_iload_n (pc' := 76) dX11_apart_75 rfl rfl rfl ?_
    refine e_r_iload_n (pc' := 77) dX11_apart_76 rfl rfl rfl ?_
    obtain ⟨r10, N9, he11, h⟩ := h
    refine e_r_callV (a := 64) (av := [.inl p2, .inl p3]) (st := []) mqYX11_hadBy ml_RX11_341 cl_11 rfl (Nat.le_of_ble_eq_true rfl) (by simp [e_cat]) rfl rfl rfl dX11_apart_77 (pc' := 80) rfl he11 ⟨Nat.le_refl _, Nat.le_refl _⟩ hmo ?_
    refine e_r_istore (pc' := 82) (loc' := [some (.inr (.inr 64)), some (.inl p1), some (.inl p2), some (.inl p3), some (.inl r7), some (.inl r10)]) dX11_apart_80 rfl rfl rfl rfl ?_
    refine e_r_iload (pc' := 84) dX11_apart_82 rfl rfl ?_
    refine e_r_iconst (pc' := 85) dX11_apart_84 rfl (by decide) ?_
    obtain ⟨ht12, hf13⟩ := h
    refine e_r_icmp_eq (tgt := 94) (pc' := 88) dX11_apart_85 rfl rfl (fun c => ?_) (fun c => ?_)
    · have h := ht12 c
      refine e_r_iconst (pc' := 95) dX11_apart_94 rfl (by decide) ?_
      exact e_r_iret (ty := .int) rfl (e_nI _) dX11_apart_95 h
    · have h := hf13 c
      refine e_r_iload (pc' := 90) dX11_apart_88 rfl rfl ?_
      refine e_r_iconst (pc' := 91) dX11_apart_90 rfl (by decide) ?_
      obtain ⟨ht14, hf15⟩ := h
      refine e_r_icmp_ne (tgt := 96) (pc' := 94) dX11_apart_91 rfl rfl (fun c => ?_) (fun c => ?_)
      · have h := ht14 c
        refine e_r_iload (pc' := 98) dX11_apart_96 rfl rfl ?_
        refine e_r_iload (pc' := 100) dX11_apart_98 rfl rfl ?_
        refine e_r_iadd (pc' := 101) dX11_apart_100 rfl ?_
        refine e_r_iload_n (pc' := 102) dX11_apart_101 rfl rfl rfl ?_
        obtain ⟨ht16, hf17⟩ := h
        refine e_r_icmp_le (tgt := 109) (pc' := 105) dX11_apart_102 rfl rfl (fun c => ?_) (fun c => ?_)
        · have h := ht16 c
          refine e_r_iload_n (pc' := 110) dX11_apart_109 rfl rfl rfl ?_
          refine e_r_iload (pc' := 112) dX11_apart_110 rfl rfl ?_
          obtain ⟨r19, N18, he20, h⟩ := h
          refine e_r_callS (av := [.inl p3, .inl r7]) (st := []) mqYX11_choose ml_RX11_344 (by simp [e_cat]) rfl rfl rfl dX11_apart_112 (pc' := 115) rfl he20 ⟨Nat.le_refl _, Nat.le_refl _⟩ hmo ?_
          refine e_r_iload_n (pc' := 116) dX11_apart_115 rfl rfl rfl ?_
          refine e_r_iload (pc' := 118) dX11_apart_116 rfl rfl ?_
          refine e_r_isub (pc' := 119) dX11_apart_118 rfl ?_
          refine e_r_iload (pc' := 121) dX11_apart_119 rfl rfl ?_
          obtain ⟨r22, N21, he23, h⟩ := h
          refine e_r_callS (av := [.inl (e_w (p3 - r7)), .inl r10]) (st := [.inl r19]) mqYX11_choose ml_RX11_344 (by simp [e_cat]) rfl rfl rfl dX11_apart_121 (pc' := 124) rfl he23 ⟨Nat.le_refl _, Nat.le_refl _⟩ hmo ?_
          refine e_r_imul (pc' := 125) dX11_apart_124 rfl ?_
          exact e_r_iret (ty := .int) rfl (e_nI _) dX11_apart_125 h
        · have h := hf17 c
          refine e_r_iconst (pc' := 106) dX11_apart_105 rfl (by decide) ?_
          refine e_r_goto (pc' := 125) dX11_apart_106 rfl ?_
          exact e_r_iret (ty := .int) rfl (e_nI _) dX11_apart_125 h
      · have h := hf15 c
        refine e_r_iconst (pc' := 95) dX11_apart_94 rfl (by decide) ?_
        exact e_r_iret (ty := .int) rfl (e_nI _) dX11_apart_95 h
  · have h := hf5 c
    refine e_r_iconst (pc' := 65) dX11_apart_64 rfl (by decide) ?_
    exact e_r_iret (ty := .int) rfl (e_nI _) dX11_apart_65 h
theorem wp_X11_apart_51 {X : e_X} {d gn : Nat} {o : e_O} (M : e_M) (p1 p2 p3 : Int) (h : e_G X (d + 1) YX11_apart 56 [some (.inr (.inr 64)), some (.inl p1), some (.inl p2), some (.inl p3), none, none] [.inl 1, .inr (.inr 64)] (557, gn, e_RF, M) o) : e_G X (d + 1) YX11_apart 51 [some (.inr (.inr 64)), some (.inl p1), some (.inl p2), some (.inl p3), none, none] [.inr (.inr 64)] (557, gn, e_RF, M) o := by
  refine e_r_iconst (pc' := 52) dX11_apart_51 rfl (by decide) ?_
  refine e_r_goto (pc' := 56) dX11_apart_52 rfl ?_
  exact h
theorem wp_X11_apart_22 {X : e_X} {d gn : Nat} {o : e_O} (M : e_M) (p1 p2 p3 : Int) (h : e_G X (d + 1) YX11_apart 27 [some (.inr (.inr 64)), some (.inl p1), some (.inl p2), some (.inl p3), none, none] [.inl 1, .inr (.inr 64)] (557, gn, e_RF, M) o) : e_G X (d + 1) YX11_apart 22 [some (.inr (.inr 64)), some (.inl p1), some (.inl p2), some (.inl p3), none, none] [.inr (.inr 64)] (557, gn, e_RF, M) o := by
  refine e_r_iconst (pc' := 23) dX11_apart_22 rfl (by decide) ?_
  refine e_r_goto (pc' := 27) dX11_apart_23 rfl ?_
  exact h
theorem wp_X11_together_0 {X : e_X} {d gn : Nat} {o : e_O} (M : e_M) (p1 p2 p3 : Int) (hmo : e_mn (557, gn, e_RF, M) o.2) (h : (∃ (r2 : Int) (N1 : e_M), e_E X d YX11_isPerson [.inr (.inr 64), .inl p1] (557, gn, e_RF, (e_up M 64 0 0)) (.inl (some (.inl r2)), (557, gn, e_RF, N1)) ∧ ((r2 = 0 → e_G X (d + 1) YX11_together 22 [some (.inr (.inr 64)), some (.inl p1), some (.inl p2), some (.inl p3), none, none] [.inr (.inr 64)] (557, gn, e_RF, N1) o) ∧ (¬ (r2 = 0) → (∃ (r7 : Int) (N6 : e_M), e_E X d YX11_isPerson [.inr (.inr 64), .inl p2] (557, gn, e_RF, N1) (.inl (some (.inl r7)), (557, gn, e_RF, N6)) ∧ ((¬ r7 = 0 → e_G X (d + 1) YX11_together 27 [some (.inr (.inr 64)), some (.inl p1), some (.inl p2), some (.inl p3), none, none] [.inl 0, .inr (.inr 64)] (557, gn, e_RF, N6) o) ∧ (r7 = 0 → e_G X (d + 1) YX11_together 22 [some (.inr (.inr 64)), some (.inl p1), some (.inl p2), some (.inl p3), none, none] [.inr (.inr 64)] (557, gn, e_RF, N6) o))))))) : e_G X (d + 1) YX11_together 0 [some (.inr (.inr 64)), some (.inl p1), some (.inl p2), some (.inl p3), none, none] [] (557, gn, e_RF, M) o := by
  refine e_r_aload_n (pc' := 1) (by decide) dX11_together_0 rfl rfl rfl ?_
  refine e_r_iconst (pc' := 2) dX11_together_1 rfl (by decide) ?_
  refine e_r_puti (k := 0) (pc' := 5) cl_11 rfl (Nat.le_of_ble_eq_true rfl) rfl rfl fl_RX11_97 rfl (by decide +kernel) dX11_together_2 rfl ?_
  refine e_r_aload_n (pc' := 6) (by decide) dX11_together_5 rfl rfl rfl ?_
  refine e_r_aload_n (pc' := 7) (by decide) dX11_together_6 rfl rfl rfl ?_
  refine e_r_iload_n (pc' := 8) dX11_together_7 rfl rfl rfl ?_
  obtain ⟨r2, N1, he3, h⟩ := h
  refine e_r_callV (a := 64) (av := [.inl p1]) (st := [.inr (.inr 64)]) mqYX11_isPerson ml_RX11_325 cl_11 rfl (Nat.le_of_ble_eq_true rfl) (by simp [e_cat]) rfl rfl rfl dX11_together_8 (pc' := 11) rfl he3 ⟨Nat.le_refl _, Nat.le_refl _⟩ hmo ?_
  obtain ⟨ht4, hf5⟩ := h
  refine e_r_if_eq (tgt := 22) (pc' := 14) dX11_together_11 rfl rfl (fun c => ?_) (fun c => ?_)
  · have h := ht4 c
    exact h
  · have h := hf5 c
    refine e_r_aload_n (pc' := 15) (by decide) dX11_together_14 rfl rfl rfl ?_
    refine e_r_iload_n (pc' := 16) dX11_together_15 rfl rfl rfl ?_
    obtain ⟨r7, N6, he8, h⟩ := h
    refine e_r_callV (a := 64) (av := [.inl p2]) (st := [.inr (.inr 64)]) mqYX11_isPerson ml_RX11_325 cl_11 rfl (Nat.le_of_ble_eq_true rfl) (by simp [e_cat]) rfl rfl rfl dX11_together_16 (pc' := 19) rfl he8 ⟨Nat.le_refl _, Nat.le_refl _⟩ hmo ?_
    obtain ⟨ht9, hf10⟩ := h
    refine e_r_if_ne (tgt := 26) (pc' := 22) dX11_together_19 rfl rfl (fun c => ?_) (fun c => ?_)
    · have h := ht9 c
      refine e_r_iconst (pc' := 27) dX11_together_26 rfl (by decide) ?_
      exact h
    · have h := hf10 c
      exact h
theorem wp_X11_together_27 {X : e_X} {d gn : Nat} {o : e_O} (M : e_M) (p1 p2 p3 w0 : Int) (hmo : e_mn (557, gn, e_RF, M) o.2) (h : (∃ (r2 : Int) (N1 : e_M), e_E X d YX11_bad [.inr (.inr 64), .inl w0, .inl 1, .inl 0] (557, gn, e_RF, M) (.inl (some (.inl r2)), (557, gn, e_RF, N1)) ∧ ((¬ r2 = 0 → (o = (.inl (some (.inl 0)), (557, gn, e_RF, N1)))) ∧ (r2 = 0 → ((p1 = p2 → e_G X (d + 1) YX11_together 51 [some (.inr (.inr 64)), some (.inl p1), some (.inl p2), some (.inl p3), none, none] [.inr (.inr 64)] (557, gn, e_RF, N1) o) ∧ (¬ (p1 = p2) → (∃ (r9 : Int) (N8 : e_M), e_E X d YX11_in [.inl p3, .inl 0, .inl 20] (557, gn, e_RF, N1) (.inl (some (.inl r9)), (557, gn, e_RF, N8)) ∧ ((¬ r9 = 0 → e_G X (d + 1) YX11_together 56 [some (.inr (.inr 64)), some (.inl p1), some (.inl p2), some (.inl p3), none, none] [.inl 0, .inr (.inr 64)] (557, gn, e_RF, N8) o) ∧ (r9 = 0 → e_G X (d + 1) YX11_together 51 [some (.inr (.inr 64)), some (.inl p1), some (.inl p2), some (.inl p3), none, none] [.inr (.inr 64)] (557, gn, e_RF, N8) o))))))))) : e_G X (d + 1) YX11_together 27 [some (.inr (.inr 64)), some (.inl p1), some (.inl p2), some (.inl p3), none, none] [.inl w0, .inr (.inr 64)] (557, gn, e_RF, M) o := by
  refine e_r_iconst (pc' := 28) dX11_together_27 rfl (by decide) ?_
  refine e_r_iconst (pc' := 29) dX11_together_28 rfl (by decide) ?_
  obtain ⟨r2, N1, he3, h⟩ := h
  refine e_r_callV (a := 64) (av := [.inl w0, .inl 1, .inl 0]) (st := []) mqYX11_bad ml_RX11_173 cl_11 rfl (Nat.le_of_ble_eq_true rfl) (by simp [e_cat]) rfl rfl rfl dX11_together_29 (pc' := 32) rfl he3 ⟨Nat.le_refl _, Nat.le_refl _⟩ hmo ?_
  obtain ⟨ht4, hf5⟩ := h
  refine e_r_if_ne (tgt := 64) (pc' := 35) dX11_together_32 rfl rfl (fun c => ?_) (fun c => ?_)
  · have h := ht4 c
    refine e_r_iconst (pc' := 65) dX11_together_64 rfl (by decide) ?_
    exact e_r_iret (ty := .int) rfl (e_nI _) dX11_together_65 h
  · have h := hf5 c
    refine e_r_aload_n (pc' := 36) (by decide) dX11_together_35 rfl rfl rfl ?_
    refine e_r_iload_n (pc' := 37) dX11_together_36 rfl rfl rfl ?_
    refine e_r_iload_n (pc' := 38) dX11_together_37 rfl rfl rfl ?_
    obtain ⟨ht6, hf7⟩ := h
    refine e_r_icmp_eq (tgt := 51) (pc' := 41) dX11_together_38 rfl rfl (fun c => ?_) (fun c => ?_)
    · have h := ht6 c
      exact h
    · have h := hf7 c
      refine e_r_iload_n (pc' := 42) dX11_together_41 rfl rfl rfl ?_
      refine e_r_iconst (pc' := 43) dX11_together_42 rfl (by decide) ?_
      refine e_r_bipush (pc' := 45) dX11_together_43 rfl (by decide) ?_
      obtain ⟨r9, N8, he10, h⟩ := h
      refine e_r_callS (av := [.inl p3, .inl 0, .inl 20]) (st := [.inr (.inr 64)]) mqYX11_in ml_RX11_131 (by simp [e_cat]) rfl rfl rfl dX11_together_45 (pc' := 48) rfl he10 ⟨Nat.le_refl _, Nat.le_refl _⟩ hmo ?_
      obtain ⟨ht11, hf12⟩ := h
      refine e_r_if_ne (tgt := 55) (pc' := 51) dX11_together_48 rfl rfl (fun c => ?_) (fun c => ?_)
      · have h := ht11 c
        refine e_r_iconst (pc' := 56) dX11_together_55 rfl (by decide) ?_
        exact h
      · have h := hf12 c
        exact h
theorem wp_X11_together_56 {X : e_X} {d gn : Nat} {o : e_O} (M : e_M) (p1 p2 p3 w0 : Int) (hmo : e_mn (557, gn, e_RF, M) o.2) (h : (∃ (r2 : Int) (N1 : e_M), e_E X d YX11_bad [.inr (.inr 64), .inl w0, .inl 2, .inl 1] (557, gn, e_RF, M) (.inl (some (.inl r2)), (557, gn, e_RF, N1)) ∧ ((r2 = 0 → (∃ (r7 : Int) (N6 : e_M), e_E X d YX11_hadBy [.inr (.inr 64), .inl p1, .inl p3] (557, gn, e_RF, N1) (.inl (some (.inl r7)), (557, gn, e_RF, N6)) ∧ (∃ (r10 : Int) (N9 : e_M), e_E X d YX11_hadBy [.inr (.inr 64), .inl p2, .inl p3] (557, gn, e_RF, N6) (.inl (some (.inl r10)), (557, gn, e_RF, N9)) ∧ ((r7 = (-1) → (o = (.inl (some (.inl (-1))), (557, gn, e_RF, N9)))) ∧ (¬ (r7 = (-1)) → ((r10 = (-1) → (o = (.inl (some (.inl (-1))), (557, gn, e_RF, N9)))) ∧ (¬ (r10 = (-1)) → ((p3 < r7 → (o = (.inl (some (.inl (-1))), (557, gn, e_RF, N9)))) ∧ (¬ (p3 < r7) → ((r10 ≤ p3 → (∃ (r21 : Int) (N20 : e_M), e_E X d YX11_more [.inl 0, .inl (e_w ((e_w (r7 + r10)) - p3))] (557, gn, e_RF, N9) (.inl (some (.inl r21)), (557, gn, e_RF, N20)) ∧ (o = (.inl (some (.inl r21)), (557, gn, e_RF, N20))))) ∧ (¬ (r10 ≤ p3) → (o = (.inl (some (.inl (-1))), (557, gn, e_RF, N9)))))))))))))) ∧ (¬ (r2 = 0) → (o = (.inl (some (.inl 0)), (557, gn, e_RF, N1))))))) : e_G X (d + 1) YX11_together 56 [some (.inr (.inr 64)), some (.inl p1), some (.inl p2), some (.inl p3), none, none] [.inl w0, .inr (.inr 64)] (557, gn, e_RF, M) o := by
  refine e_r_iconst (pc' := 57) dX11_together_56 rfl (by decide) ?_
  refine e_r_iconst (pc' := 58) dX11_together_57 rfl (by decide) ?_
  obtain ⟨r2, N1, he3, h⟩ := h
  refine e_r_callV (a := 64) (av := [.inl w0, .inl 2, .inl 1]) (st := []) mqYX11_bad ml_RX11_173 cl_11 rfl (Nat.le_of_ble_eq_true rfl) (by simp [e_cat]) rfl rfl rfl dX11_together_58 (pc' := 61) rfl he3 ⟨Nat.le_refl _, Nat.le_refl _⟩ hmo ?_
  obtain ⟨ht4, hf5⟩ := h
  refine e_r_if_eq (tgt := 66) (pc' := 64) dX11_together_61 rfl rfl (fun c => ?_) (fun c => ?_)
  · have h := ht4 c
    refine e_r_aload_n (pc' := 67) (by decide) dX11_together_66 rfl rfl rfl ?_
    refine e_r_iload_n (pc' := 68) dX11_together_67 rfl rfl rfl ?_
    refine e_r_iload_n (pc' := 69) dX11_together_68 rfl rfl rfl ?_
    obtain ⟨r7, N6, he8, h⟩ := h
    refine e_r_callV (a := 64) (av := [.inl p1, .inl p3]) (st := []) mqYX11_hadBy ml_RX11_341 cl_11 rfl (Nat.le_of_ble_eq_true rfl) (by simp [e_cat]) rfl rfl rfl dX11_together_69 (pc' := 72) rfl he8 ⟨Nat.le_refl _, Nat.le_refl _⟩ hmo ?_
    refine e_r_istore (pc' := 74) (loc' := [some (.inr (.inr 64)), some (.inl p1), some (.inl p2), some (.inl p3), some (.inl r7), none]) dX11_together_72 rfl rfl rfl rfl ?_
    refine e_r_aload_n (pc' := 75) (by decide) dX11_together_74 rfl rfl rfl ?_
    refine e_r_iload_n (pc' := 76) dX11_together_75 rfl rfl rfl ?_
    refine e_r_iload_n (pc' := 77) dX11_together_76 rfl rfl rfl ?_
    obtain ⟨r10, N9, he11, h⟩ := h
    refine e_r_callV (a := 64) (av := [.inl p2, .inl p3]) (st := []) mqYX11_hadBy ml_RX11_341 cl_11 rfl (Nat.le_of_ble_eq_true rfl) (by simp [e_cat]) rfl rfl rfl dX11_together_77 (pc' := 80) rfl he11 ⟨Nat.le_refl _, Nat.le_refl _⟩ hmo ?_
    refine e_r_istore (pc' := 82) (loc' := [some (.inr (.inr 64)), some (.inl p1), some (.inl p2), some (.inl p3), some (.inl r7), some (.inl r10)]) dX11_together_80 rfl rfl rfl rfl ?_
    refine e_r_iload (pc' := 84) dX11_together_82 rfl rfl ?_
    refine e_r_iconst (pc' := 85) dX11_together_84 rfl (by decide) ?_
    obtain ⟨ht12, hf13⟩ := h
    refine e_r_icmp_eq (tgt := 106) (pc' := 88) dX11_together_85 rfl rfl (fun c => ?_) (fun c => ?_)
    · have h := ht12 c
      refine e_r_iconst (pc' := 107) dX11_together_106 rfl (by decide) ?_
      refine e_r_goto (pc' := 121) dX11_together_107 rfl ?_
      exact e_r_iret (ty := .int) rfl (e_nI _) dX11_together_121 h
    · have h := hf13 c
      refine e_r_iload (pc' := 90) dX11_together_88 rfl rfl ?_
      refine e_r_iconst (pc' := 91) dX11_together_90 rfl (by decide) ?_
      obtain ⟨ht14, hf15⟩ := h
      refine e_r_icmp_eq (tgt := 106) (pc' := 94) dX11_together_91 rfl rfl (fun c => ?_) (fun c => ?_)
      · have h := ht14 c
        refine e_r_iconst (pc' := 107) dX11_together_106 rfl (by decide) ?_
        refine e_r_goto (pc' := 121) dX11_together_107 rfl ?_
        exact e_r_iret (ty := .int) rfl (e_nI _) dX11_together_121 h
      · have h := hf15 c
        refine e_r_iload (pc' := 96) dX11_together_94 rfl rfl ?_
        refine e_r_iload_n (pc' := 97) dX11_together_96 rfl rfl rfl ?_
        obtain ⟨ht16, hf17⟩ := h
        refine e_r_icmp_gt (tgt := 106) (pc' := 100) dX11_together_97 rfl rfl (fun c => ?_) (fun c => ?_)
        · have h := ht16 c
          refine e_r_iconst (pc' := 107) dX11_together_106 rfl (by decide) ?_
          refine e_r_goto (pc' := 121) dX11_together_107 rfl ?_
          exact e_r_iret (ty := .int) rfl (e_nI _) dX11_together_121 h
        · have h := hf17 c
          refine e_r_iload (pc' := 102) dX11_together_100 rfl rfl ?_
          refine e_r_iload_n (pc' := 103) dX11_together_102 rfl rfl rfl ?_
          obtain ⟨ht18, hf19⟩ := h
          refine e_r_icmp_le (tgt := 110) (pc' := 106) dX11_together_103 rfl rfl (fun c => ?_) (fun c => ?_)
          · have h := ht18 c
            refine e_r_iconst (pc' := 111) dX11_together_110 rfl (by decide) ?_
            refine e_r_iload (pc' := 113) dX11_together_111 rfl rfl ?_
            refine e_r_iload (pc' := 115) dX11_together_113 rfl rfl ?_
            refine e_r_iadd (pc' := 116) dX11_together_115 rfl ?_
            refine e_r_iload_n (pc' := 117) dX11_together_116 rfl rfl rfl ?_
            refine e_r_isub (pc' := 118) dX11_together_117 rfl ?_
            obtain ⟨r21, N20, he22, h⟩ := h
            refine e_r_callS (av := [.inl 0, .inl (e_w ((e_w (r7 + r10)) - p3))]) (st := []) mqYX11_more ml_RX11_240 (by simp [e_cat]) rfl rfl rfl dX11_together_118 (pc' := 121) rfl he22 ⟨Nat.le_refl _, Nat.le_refl _⟩ hmo ?_
            exact e_r_iret (ty := .int) rfl (e_nI _) dX11_together_121 h
          · have h := hf19 c
            refine e_r_iconst (pc' := 107) dX11_together_106 rfl (by decide) ?_
            refine e_r_goto (pc' := 121) dX11_together_107 rfl ?_
            exact e_r_iret (ty := .int) rfl (e_nI _) dX11_together_121 h
  · have h := hf5 c
    refine e_r_iconst (pc' := 65) dX11_together_64 rfl (by decide) ?_
    exact e_r_iret (ty := .int) rfl (e_nI _) dX11_together_65 h
theorem wp_X11_together_51 {X : e_X} {d gn : Nat} {o : e_O} (M : e_M) (p1 p2 p3 : Int) (h : e_G X (d + 1) YX11_together 56 [some (.inr (.inr 64)), some (.inl p1), some (.inl p2), some (.inl p3), none, none] [.inl 1, .inr (.inr 64)] (557, gn, e_RF, M) o) : e_G X (d + 1) YX11_together 51 [some (.inr (.inr 64)), some (.inl p1), some (.inl p2), some (.inl p3), none, none] [.inr (.inr 64)] (557, gn, e_RF, M) o := by
  refine e_r_iconst (pc' := 52) dX11_together_51 rfl (by decide) ?_
  refine e_r_goto (pc' := 56) dX11_together_52 rfl ?_
  exact h
theorem wp_X11_together_22 {X : e_X} {d gn : Nat} {o : e_O} (M : e_M) (p1 p2 p3 : Int) (h : e_G X (d + 1) YX11_together 27 [some (.inr (.inr 64)), some (.inl p1), some (.inl p2), some (.inl p3), none, none] [.inl 1, .inr (.inr 64)] (557, gn, e_RF, M) o) : e_G X (d + 1) YX11_together 22 [some (.inr (.inr 64)), some (.inl p1), some (.inl p2), some (.inl p3), none, none] [.inr (.inr 64)] (557, gn, e_RF, M) o := by
  refine e_r_iconst (pc' := 23) dX11_together_22 rfl (by decide) ?_
  refine e_r_goto (pc' := 27) dX11_together_23 rfl ?_
  exact h
theorem wp_X11_met_0 {X : e_X} {d gn : Nat} {o : e_O} (M : e_M) (p1 p2 p3 : Int) (hmo : e_mn (557, gn, e_RF, M) o.2) (h : (∃ (r2 : Int) (N1 : e_M), e_E X d YX11_in [.inl p1, .inl 0, .inl 7] (557, gn, e_RF, (e_up M 64 0 0)) (.inl (some (.inl r2)), (557, gn, e_RF, N1)) ∧ ((r2 = 0 → e_G X (d + 1) YX11_met 35 [some (.inr (.inr 64)), some (.inl p1), some (.inl p2), some (.inl p3), none, none, none, none, none, none, none, none, none, none, none, none] [.inr (.inr 64)] (557, gn, e_RF, N1) o) ∧ (¬ (r2 = 0) → (∃ (r7 : Int) (N6 : e_M), e_E X d YX11_in [.inl p2, .inl 0, .inl 16] (557, gn, e_RF, N1) (.inl (some (.inl r7)), (557, gn, e_RF, N6)) ∧ ((r7 = 0 → e_G X (d + 1) YX11_met 35 [some (.inr (.inr 64)), some (.inl p1), some (.inl p2), some (.inl p3), none, none, none, none, none, none, none, none, none, none, none, none] [.inr (.inr 64)] (557, gn, e_RF, N6) o) ∧ (¬ (r7 = 0) → (∃ (r12 : Int) (N11 : e_M), e_E X d YX11_in [.inl p3, .inl 0, .inl 1] (557, gn, e_RF, N6) (.inl (some (.inl r12)), (557, gn, e_RF, N11)) ∧ ((¬ r12 = 0 → e_G X (d + 1) YX11_met 40 [some (.inr (.inr 64)), some (.inl p1), some (.inl p2), some (.inl p3), none, none, none, none, none, none, none, none, none, none, none, none] [.inl 0, .inr (.inr 64)] (557, gn, e_RF, N11) o) ∧ (r12 = 0 → e_G X (d + 1) YX11_met 35 [some (.inr (.inr 64)), some (.inl p1), some (.inl p2), some (.inl p3), none, none, none, none, none, none, none, none, none, none, none, none] [.inr (.inr 64)] (557, gn, e_RF, N11) o)))))))))) : e_G X (d + 1) YX11_met 0 [some (.inr (.inr 64)), some (.inl p1), some (.inl p2), some (.inl p3), none, none, none, none, none, none, none, none, none, none, none, none] [] (557, gn, e_RF, M) o := by
  refine e_r_aload_n (pc' := 1) (by decide) dX11_met_0 rfl rfl rfl ?_
  refine e_r_iconst (pc' := 2) dX11_met_1 rfl (by decide) ?_
  refine e_r_puti (k := 0) (pc' := 5) cl_11 rfl (Nat.le_of_ble_eq_true rfl) rfl rfl fl_RX11_97 rfl (by decide +kernel) dX11_met_2 rfl ?_
  refine e_r_aload_n (pc' := 6) (by decide) dX11_met_5 rfl rfl rfl ?_
  refine e_r_iload_n (pc' := 7) dX11_met_6 rfl rfl rfl ?_
  refine e_r_iconst (pc' := 8) dX11_met_7 rfl (by decide) ?_
  refine e_r_bipush (pc' := 10) dX11_met_8 rfl (by decide) ?_
  obtain ⟨r2, N1, he3, h⟩ := h
  refine e_r_callS (av := [.inl p1, .inl 0, .inl 7]) (st := [.inr (.inr 64)]) mqYX11_in ml_RX11_131 (by simp [e_cat]) rfl rfl rfl dX11_met_10 (pc' := 13) rfl he3 ⟨Nat.le_refl _, Nat.le_refl _⟩ hmo ?_
  obtain ⟨ht4, hf5⟩ := h
  refine e_r_if_eq (tgt := 35) (pc' := 16) dX11_met_13 rfl rfl (fun c => ?_) (fun c => ?_)
  · have h := ht4 c
    exact h
  · have h := hf5 c
    refine e_r_iload_n (pc' := 17) dX11_met_16 rfl rfl rfl ?_
    refine e_r_iconst (pc' := 18) dX11_met_17 rfl (by decide) ?_
    refine e_r_bipush (pc' := 20) dX11_met_18 rfl (by decide) ?_
    obtain ⟨r7, N6, he8, h⟩ := h
    refine e_r_callS (av := [.inl p2, .inl 0, .inl 16]) (st := [.inr (.inr 64)]) mqYX11_in ml_RX11_131 (by simp [e_cat]) rfl rfl rfl dX11_met_20 (pc' := 23) rfl he8 ⟨Nat.le_refl _, Nat.le_refl _⟩ hmo ?_
    obtain ⟨ht9, hf10⟩ := h
    refine e_r_if_eq (tgt := 35) (pc' := 26) dX11_met_23 rfl rfl (fun c => ?_) (fun c => ?_)
    · have h := ht9 c
      exact h
    · have h := hf10 c
      refine e_r_iload_n (pc' := 27) dX11_met_26 rfl rfl rfl ?_
      refine e_r_iconst (pc' := 28) dX11_met_27 rfl (by decide) ?_
      refine e_r_iconst (pc' := 29) dX11_met_28 rfl (by decide) ?_
      obtain ⟨r12, N11, he13, h⟩ := h
      refine e_r_callS (av := [.inl p3, .inl 0, .inl 1]) (st := [.inr (.inr 64)]) mqYX11_in ml_RX11_131 (by simp [e_cat]) rfl rfl rfl dX11_met_29 (pc' := 32) rfl he13 ⟨Nat.le_refl _, Nat.le_refl _⟩ hmo ?_
      obtain ⟨ht14, hf15⟩ := h
      refine e_r_if_ne (tgt := 39) (pc' := 35) dX11_met_32 rfl rfl (fun c => ?_) (fun c => ?_)
      · have h := ht14 c
        refine e_r_iconst (pc' := 40) dX11_met_39 rfl (by decide) ?_
        exact h
      · have h := hf15 c
        exact h
theorem wp_X11_met_40 {X : e_X} {d gn : Nat} {o : e_O} (M : e_M) (p1 p2 p3 w0 : Int) (hmo : e_mn (557, gn, e_RF, M) o.2) (h : (∃ (r2 : Int) (N1 : e_M), e_E X d YX11_bad [.inr (.inr 64), .inl w0, .inl 1, .inl 1] (557, gn, e_RF, M) (.inl (some (.inl r2)), (557, gn, e_RF, N1)) ∧ ((r2 = 0 → e_G X (d + 1) YX11_met 64 [some (.inr (.inr 64)), some (.inl p1), some (.inl p2), some (.inl p3), some (.inr (.inl 1)), none, some (.inr (.inl (e_lshl 1 (e_w (8 * p1))))), none, some (.inl 0), none, none, none, none, none, none, none] [] (557, gn, e_RF, N1) o) ∧ (¬ (r2 = 0) → (o = (.inl (some (.inr (.inl 0))), (557, gn, e_RF, N1))))))) : e_G X (d + 1) YX11_met 40 [some (.inr (.inr 64)), some (.inl p1), some (.inl p2), some (.inl p3), none, none, none, none, none, none, none, none, none, none, none, none] [.inl w0, .inr (.inr 64)] (557, gn, e_RF, M) o := by
  refine e_r_iconst (pc' := 41) dX11_met_40 rfl (by decide) ?_
  refine e_r_iconst (pc' := 42) dX11_met_41 rfl (by decide) ?_
  obtain ⟨r2, N1, he3, h⟩ := h
  refine e_r_callV (a := 64) (av := [.inl w0, .inl 1, .inl 1]) (st := []) mqYX11_bad ml_RX11_173 cl_11 rfl (Nat.le_of_ble_eq_true rfl) (by simp [e_cat]) rfl rfl rfl dX11_met_42 (pc' := 45) rfl he3 ⟨Nat.le_refl _, Nat.le_refl _⟩ hmo ?_
  obtain ⟨ht4, hf5⟩ := h
  refine e_r_if_eq (tgt := 50) (pc' := 48) dX11_met_45 rfl rfl (fun c => ?_) (fun c => ?_)
  · have h := ht4 c
    refine e_r_lconst (pc' := 51) (z := 1) dX11_met_50 rfl rfl ?_
    refine e_r_lstore (pc' := 53) (loc' := [some (.inr (.inr 64)), some (.inl p1), some (.inl p2), some (.inl p3), some (.inr (.inl 1)), none, none, none, none, none, none, none, none, none, none, none]) dX11_met_51 rfl rfl rfl rfl ?_
    refine e_r_lconst (pc' := 54) (z := 1) dX11_met_53 rfl rfl ?_
    refine e_r_bipush (pc' := 56) dX11_met_54 rfl (by decide) ?_
    refine e_r_iload_n (pc' := 57) dX11_met_56 rfl rfl rfl ?_
    refine e_r_imul (pc' := 58) dX11_met_57 rfl ?_
    refine e_r_lshl (pc' := 59) dX11_met_58 rfl ?_
    refine e_r_lstore (pc' := 61) (loc' := [some (.inr (.inr 64)), some (.inl p1), some (.inl p2), some (.inl p3), some (.inr (.inl 1)), none, some (.inr (.inl (e_lshl 1 (e_w (8 * p1))))), none, none, none, none, none, none, none, none, none]) dX11_met_59 rfl rfl rfl rfl ?_
    refine e_r_iconst (pc' := 62) dX11_met_61 rfl (by decide) ?_
    refine e_r_istore (pc' := 64) (loc' := [some (.inr (.inr 64)), some (.inl p1), some (.inl p2), some (.inl p3), some (.inr (.inl 1)), none, some (.inr (.inl (e_lshl 1 (e_w (8 * p1))))), none, some (.inl 0), none, none, none, none, none, none, none]) dX11_met_62 rfl rfl rfl rfl ?_
    exact h
  · have h := hf5 c
    refine e_r_lconst (pc' := 49) (z := 0) dX11_met_48 rfl rfl ?_
    exact e_r_lret rfl dX11_met_49 h
theorem wp_X11_met_64 {X : e_X} {d gn : Nat} {o : e_O} (M : e_M) (p1 p2 p3 v4 v6 v8 : Int) (h : ((p1 ≤ v8 → e_G X (d + 1) YX11_met 104 [some (.inr (.inr 64)), some (.inl p1), some (.inl p2), some (.inl p3), some (.inr (.inl v4)), none, some (.inr (.inl v6)), none, some (.inr (.inl (e_wl (v6 - v4)))), none, some (.inr (.inl v6)), none, some (.inr (.inl (e_wl (v6 - v4)))), none, none, none] [] (557, gn, e_RF, M) o) ∧ (¬ (p1 ≤ v8) → e_G X (d + 1) YX11_met 64 [some (.inr (.inr 64)), some (.inl p1), some (.inl p2), some (.inl p3), some (.inr (.inl (e_wl (v4 * (e_w (256 - (e_w (p2 * p2)))))))), none, some (.inr (.inl v6)), none, some (.inl (e_w (v8 + 1))), none, none, none, none, none, none, none] [] (557, gn, e_RF, M) o))) : e_G X (d + 1) YX11_met 64 [some (.inr (.inr 64)), some (.inl p1), some (.inl p2), some (.inl p3), some (.inr (.inl v4)), none, some (.inr (.inl v6)), none, some (.inl v8), none, none, none, none, none, none, none] [] (557, gn, e_RF, M) o := by
  refine e_r_iload (pc' := 66) dX11_met_64 rfl rfl ?_
  refine e_r_iload_n (pc' := 67) dX11_met_66 rfl rfl rfl ?_
  obtain ⟨ht1, hf2⟩ := h
  refine e_r_icmp_ge (tgt := 89) (pc' := 70) dX11_met_67 rfl rfl (fun c => ?_) (fun c => ?_)
  · have h := ht1 c
    refine e_r_lload (pc' := 91) dX11_met_89 rfl rfl ?_
    refine e_r_lload (pc' := 93) dX11_met_91 rfl rfl ?_
    refine e_r_lsub (pc' := 94) dX11_met_93 rfl ?_
    refine e_r_lstore (pc' := 96) (loc' := [some (.inr (.inr 64)), some (.inl p1), some (.inl p2), some (.inl p3), some (.inr (.inl v4)), none, some (.inr (.inl v6)), none, some (.inr (.inl (e_wl (v6 - v4)))), none, none, none, none, none, none, none]) dX11_met_94 rfl rfl rfl rfl ?_
    refine e_r_lload (pc' := 98) dX11_met_96 rfl rfl ?_
    refine e_r_lstore (pc' := 100) (loc' := [some (.inr (.inr 64)), some (.inl p1), some (.inl p2), some (.inl p3), some (.inr (.inl v4)), none, some (.inr (.inl v6)), none, some (.inr (.inl (e_wl (v6 - v4)))), none, some (.inr (.inl v6)), none, none, none, none, none]) dX11_met_98 rfl rfl rfl rfl ?_
    refine e_r_lload (pc' := 102) dX11_met_100 rfl rfl ?_
    refine e_r_lstore (pc' := 104) (loc' := [some (.inr (.inr 64)), some (.inl p1), some (.inl p2), some (.inl p3), some (.inr (.inl v4)), none, some (.inr (.inl v6)), none, some (.inr (.inl (e_wl (v6 - v4)))), none, some (.inr (.inl v6)), none, some (.inr (.inl (e_wl (v6 - v4)))), none, none, none]) dX11_met_102 rfl rfl rfl rfl ?_
    exact h
  · have h := hf2 c
    refine e_r_lload (pc' := 72) dX11_met_70 rfl rfl ?_
    refine e_r_sipush (pc' := 75) dX11_met_72 rfl (by decide) ?_
    refine e_r_iload_n (pc' := 76) dX11_met_75 rfl rfl rfl ?_
    refine e_r_iload_n (pc' := 77) dX11_met_76 rfl rfl rfl ?_
    refine e_r_imul (pc' := 78) dX11_met_77 rfl ?_
    refine e_r_isub (pc' := 79) dX11_met_78 rfl ?_
    refine e_r_i2l (pc' := 80) dX11_met_79 rfl ?_
    refine e_r_lmul (pc' := 81) dX11_met_80 rfl ?_
    refine e_r_lstore (pc' := 83) (loc' := [some (.inr (.inr 64)), some (.inl p1), some (.inl p2), some (.inl p3), some (.inr (.inl (e_wl (v4 * (e_w (256 - (e_w (p2 * p2)))))))), none, some (.inr (.inl v6)), none, some (.inl v8), none, none, none, none, none, none, none]) dX11_met_81 rfl rfl rfl rfl ?_
    refine e_r_iinc (pc' := 86) (loc' := [some (.inr (.inr 64)), some (.inl p1), some (.inl p2), some (.inl p3), some (.inr (.inl (e_wl (v4 * (e_w (256 - (e_w (p2 * p2)))))))), none, some (.inr (.inl v6)), none, some (.inl (e_w (v8 + 1))), none, none, none, none, none, none, none]) dX11_met_83 rfl rfl rfl rfl rfl ?_
    refine e_r_goto (pc' := 64) dX11_met_86 rfl ?_
    exact h
theorem wp_X11_met_104 {X : e_X} {d gn : Nat} {o : e_O} (M : e_M) (p1 p2 p3 v4 v6 v8 v10 v12 : Int) (h : (((e_cmp v12 0) = 0 → ((¬ p3 = 0 → (v10 ≠ 0 ∧ (o = (.inl (some (.inr (.inl (e_wl (Int.tdiv v6 v10))))), (557, gn, e_RF, M))))) ∧ (p3 = 0 → (v10 ≠ 0 ∧ (o = (.inl (some (.inr (.inl (e_wl (Int.tdiv v8 v10))))), (557, gn, e_RF, M))))))) ∧ (¬ ((e_cmp v12 0) = 0) → (v12 ≠ 0 ∧ e_G X (d + 1) YX11_met 104 [some (.inr (.inr 64)), some (.inl p1), some (.inl p2), some (.inl p3), some (.inr (.inl v4)), none, some (.inr (.inl v6)), none, some (.inr (.inl v8)), none, some (.inr (.inl v12)), none, some (.inr (.inl (e_wl (Int.tmod v10 v12)))), none, none, none] [] (557, gn, e_RF, M) o)))) : e_G X (d + 1) YX11_met 104 [some (.inr (.inr 64)), some (.inl p1), some (.inl p2), some (.inl p3), some (.inr (.inl v4)), none, some (.inr (.inl v6)), none, some (.inr (.inl v8)), none, some (.inr (.inl v10)), none, some (.inr (.inl v12)), none, none, none] [] (557, gn, e_RF, M) o := by
  refine e_r_lload (pc' := 106) dX11_met_104 rfl rfl ?_
  refine e_r_lconst (pc' := 107) (z := 0) dX11_met_106 rfl rfl ?_
  refine e_r_lcmp (pc' := 108) dX11_met_107 rfl ?_
  obtain ⟨ht1, hf2⟩ := h
  refine e_r_if_eq (tgt := 129) (pc' := 111) dX11_met_108 rfl rfl (fun c => ?_) (fun c => ?_)
  · have h := ht1 c
    refine e_r_iload_n (pc' := 130) dX11_met_129 rfl rfl rfl ?_
    obtain ⟨ht3, hf4⟩ := h
    refine e_r_if_ne (tgt := 141) (pc' := 133) dX11_met_130 rfl rfl (fun c => ?_) (fun c => ?_)
    · have h := ht3 c
      refine e_r_lload (pc' := 143) dX11_met_141 rfl rfl ?_
      refine e_r_lload (pc' := 145) dX11_met_143 rfl rfl ?_
      obtain ⟨hz5, h⟩ := h
      refine e_r_ldiv (pc' := 146) hz5 dX11_met_145 rfl ?_
      exact e_r_lret rfl dX11_met_146 h
    · have h := hf4 c
      refine e_r_lload (pc' := 135) dX11_met_133 rfl rfl ?_
      refine e_r_lload (pc' := 137) dX11_met_135 rfl rfl ?_
      obtain ⟨hz6, h⟩ := h
      refine e_r_ldiv (pc' := 138) hz6 dX11_met_137 rfl ?_
      refine e_r_goto (pc' := 146) dX11_met_138 rfl ?_
      exact e_r_lret rfl dX11_met_146 h
  · have h := hf2 c
    refine e_r_lload (pc' := 113) dX11_met_111 rfl rfl ?_
    refine e_r_lload (pc' := 115) dX11_met_113 rfl rfl ?_
    obtain ⟨hz7, h⟩ := h
    refine e_r_lrem (pc' := 116) hz7 dX11_met_115 rfl ?_
    refine e_r_lstore (pc' := 118) (loc' := [some (.inr (.inr 64)), some (.inl p1), some (.inl p2), some (.inl p3), some (.inr (.inl v4)), none, some (.inr (.inl v6)), none, some (.inr (.inl v8)), none, some (.inr (.inl v10)), none, some (.inr (.inl v12)), none, some (.inr (.inl (e_wl (Int.tmod v10 v12)))), none]) dX11_met_116 rfl rfl rfl rfl ?_
    refine e_r_lload (pc' := 120) dX11_met_118 rfl rfl ?_
    refine e_r_lstore (pc' := 122) (loc' := [some (.inr (.inr 64)), some (.inl p1), some (.inl p2), some (.inl p3), some (.inr (.inl v4)), none, some (.inr (.inl v6)), none, some (.inr (.inl v8)), none, some (.inr (.inl v12)), none, some (.inr (.inl v12)), none, some (.inr (.inl (e_wl (Int.tmod v10 v12)))), none]) dX11_met_120 rfl rfl rfl rfl ?_
    refine e_r_lload (pc' := 124) dX11_met_122 rfl rfl ?_
    refine e_r_lstore (pc' := 126) (loc' := [some (.inr (.inr 64)), some (.inl p1), some (.inl p2), some (.inl p3), some (.inr (.inl v4)), none, some (.inr (.inl v6)), none, some (.inr (.inl v8)), none, some (.inr (.inl v12)), none, some (.inr (.inl (e_wl (Int.tmod v10 v12)))), none, some (.inr (.inl (e_wl (Int.tmod v10 v12)))), none]) dX11_met_124 rfl rfl rfl rfl ?_
    refine e_r_goto (pc' := 104) dX11_met_126 rfl ?_
    exact e_forget (m := [true, true, true, true, true, false, true, false, true, false, true, false, true, false, false, false]) h rfl
theorem wp_X11_met_35 {X : e_X} {d gn : Nat} {o : e_O} (M : e_M) (p1 p2 p3 : Int) (h : e_G X (d + 1) YX11_met 40 [some (.inr (.inr 64)), some (.inl p1), some (.inl p2), some (.inl p3), none, none, none, none, none, none, none, none, none, none, none, none] [.inl 1, .inr (.inr 64)] (557, gn, e_RF, M) o) : e_G X (d + 1) YX11_met 35 [some (.inr (.inr 64)), some (.inl p1), some (.inl p2), some (.inl p3), none, none, none, none, none, none, none, none, none, none, none, none] [.inr (.inr 64)] (557, gn, e_RF, M) o := by
  refine e_r_iconst (pc' := 36) dX11_met_35 rfl (by decide) ?_
  refine e_r_goto (pc' := 40) dX11_met_36 rfl ?_
  exact h
theorem wp_X11_hasBy_0 {X : e_X} {d gn : Nat} {o : e_O} (M : e_M) (p0 p1 p2 p3 : Int) (h : ((¬ p0 = 0 → ((¬ p1 = 0 → (o = (.inl (some (.inl 0)), (557, gn, e_RF, M)))) ∧ (p1 = 0 → (o = (.inl (some (.inl (-1))), (557, gn, e_RF, M)))))) ∧ (p0 = 0 → ((¬ p1 = 0 → (o = (.inl (some (.inl p3)), (557, gn, e_RF, M)))) ∧ (p1 = 0 → (o = (.inl (some (.inl p2)), (557, gn, e_RF, M)))))))) : e_G X d YX11_hasBy 0 [some (.inl p0), some (.inl p1), some (.inl p2), some (.inl p3)] [] (557, gn, e_RF, M) o := by
  refine e_r_iload_n (pc' := 1) dX11_hasBy_0 rfl rfl rfl ?_
  obtain ⟨ht1, hf2⟩ := h
  refine e_r_if_ne (tgt := 16) (pc' := 4) dX11_hasBy_1 rfl rfl (fun c => ?_) (fun c => ?_)
  · have h := ht1 c
    refine e_r_iload_n (pc' := 17) dX11_hasBy_16 rfl rfl rfl ?_
    obtain ⟨ht3, hf4⟩ := h
    refine e_r_if_ne (tgt := 24) (pc' := 20) dX11_hasBy_17 rfl rfl (fun c => ?_) (fun c => ?_)
    · have h := ht3 c
      refine e_r_iconst (pc' := 25) dX11_hasBy_24 rfl (by decide) ?_
      exact e_r_iret (ty := .int) rfl (e_nI _) dX11_hasBy_25 h
    · have h := hf4 c
      refine e_r_iconst (pc' := 21) dX11_hasBy_20 rfl (by decide) ?_
      refine e_r_goto (pc' := 25) dX11_hasBy_21 rfl ?_
      exact e_r_iret (ty := .int) rfl (e_nI _) dX11_hasBy_25 h
  · have h := hf2 c
    refine e_r_iload_n (pc' := 5) dX11_hasBy_4 rfl rfl rfl ?_
    obtain ⟨ht5, hf6⟩ := h
    refine e_r_if_ne (tgt := 12) (pc' := 8) dX11_hasBy_5 rfl rfl (fun c => ?_) (fun c => ?_)
    · have h := ht5 c
      refine e_r_iload_n (pc' := 13) dX11_hasBy_12 rfl rfl rfl ?_
      refine e_r_goto (pc' := 25) dX11_hasBy_13 rfl ?_
      exact e_r_iret (ty := .int) rfl (e_nI _) dX11_hasBy_25 h
    · have h := hf6 c
      refine e_r_iload_n (pc' := 9) dX11_hasBy_8 rfl rfl rfl ?_
      refine e_r_goto (pc' := 25) dX11_hasBy_9 rfl ?_
      exact e_r_iret (ty := .int) rfl (e_nI _) dX11_hasBy_25 h
theorem wp_X11_isBest_0 {X : e_X} {d gn : Nat} {o : e_O} (M : e_M) (p0 p1 p2 p3 : Int) (hmo : e_mn (557, gn, e_RF, M) o.2) (h : (∃ (r2 : Int) (N1 : e_M), e_E X d YX11_hasBy [.inl p0, .inl p1, .inl p2, .inl p3] (557, gn, e_RF, M) (.inl (some (.inl r2)), (557, gn, e_RF, N1)) ∧ (∃ (r5 : Int) (N4 : e_M), e_E X d YX11_hasBy [.inl (e_w (1 - p0)), .inl p1, .inl p2, .inl p3] (557, gn, e_RF, N1) (.inl (some (.inl r5)), (557, gn, e_RF, N4)) ∧ ((r2 < r5 → (o = (.inl (some (.inl 0)), (557, gn, e_RF, N4)))) ∧ (¬ (r2 < r5) → (o = (.inl (some (.inl 1)), (557, gn, e_RF, N4)))))))) : e_G X (d + 1) YX11_isBest 0 [some (.inl p0), some (.inl p1), some (.inl p2), some (.inl p3)] [] (557, gn, e_RF, M) o := by
  refine e_r_iload_n (pc' := 1) dX11_isBest_0 rfl rfl rfl ?_
  refine e_r_iload_n (pc' := 2) dX11_isBest_1 rfl rfl rfl ?_
  refine e_r_iload_n (pc' := 3) dX11_isBest_2 rfl rfl rfl ?_
  refine e_r_iload_n (pc' := 4) dX11_isBest_3 rfl rfl rfl ?_
  obtain ⟨r2, N1, he3, h⟩ := h
  refine e_r_callS (av := [.inl p0, .inl p1, .inl p2, .inl p3]) (st := []) mqYX11_hasBy ml_RX11_347 (by simp [e_cat]) rfl rfl rfl dX11_isBest_4 (pc' := 7) rfl he3 ⟨Nat.le_refl _, Nat.le_refl _⟩ hmo ?_
  refine e_r_iconst (pc' := 8) dX11_isBest_7 rfl (by decide) ?_
  refine e_r_iload_n (pc' := 9) dX11_isBest_8 rfl rfl rfl ?_
  refine e_r_isub (pc' := 10) dX11_isBest_9 rfl ?_
  refine e_r_iload_n (pc' := 11) dX11_isBest_10 rfl rfl rfl ?_
  refine e_r_iload_n (pc' := 12) dX11_isBest_11 rfl rfl rfl ?_
  refine e_r_iload_n (pc' := 13) dX11_isBest_12 rfl rfl rfl ?_
  obtain ⟨r5, N4, he6, h⟩ := h
  refine e_r_callS (av := [.inl (e_w (1 - p0)), .inl p1, .inl p2, .inl p3]) (st := [.inl r2]) mqYX11_hasBy ml_RX11_347 (by simp [e_cat]) rfl rfl rfl dX11_isBest_13 (pc' := 16) rfl he6 ⟨Nat.le_refl _, Nat.le_refl _⟩ hmo ?_
  obtain ⟨ht7, hf8⟩ := h
  refine e_r_icmp_lt (tgt := 23) (pc' := 19) dX11_isBest_16 rfl rfl (fun c => ?_) (fun c => ?_)
  · have h := ht7 c
    refine e_r_iconst (pc' := 24) dX11_isBest_23 rfl (by decide) ?_
    exact e_r_iret (ty := .boolean) rfl (e_nZ (by decide)) dX11_isBest_24 h
  · have h := hf8 c
    refine e_r_iconst (pc' := 20) dX11_isBest_19 rfl (by decide) ?_
    refine e_r_goto (pc' := 24) dX11_isBest_20 rfl ?_
    exact e_r_iret (ty := .boolean) rfl (e_nZ (by decide)) dX11_isBest_24 h
theorem wp_X11_open_0 {X : e_X} {d gn : Nat} {o : e_O} (M : e_M) (p1 p2 p3 : Int) (hmo : e_mn (557, gn, e_RF, M) o.2) (h : (∃ (r2 : Int) (N1 : e_M), e_E X d YX11_in [.inl p1, .inl 0, .inl 99] (557, gn, e_RF, (e_up M 64 0 0)) (.inl (some (.inl r2)), (557, gn, e_RF, N1)) ∧ ((r2 = 0 → e_G X (d + 1) YX11_open 35 [some (.inr (.inr 64)), some (.inl p1), some (.inl p2), some (.inl p3), none, none, none, none, none] [.inr (.inr 64)] (557, gn, e_RF, N1) o) ∧ (¬ (r2 = 0) → (∃ (r7 : Int) (N6 : e_M), e_E X d YX11_in [.inl p2, .inl 0, .inl 99] (557, gn, e_RF, N1) (.inl (some (.inl r7)), (557, gn, e_RF, N6)) ∧ ((r7 = 0 → e_G X (d + 1) YX11_open 35 [some (.inr (.inr 64)), some (.inl p1), some (.inl p2), some (.inl p3), none, none, none, none, none] [.inr (.inr 64)] (557, gn, e_RF, N6) o) ∧ (¬ (r7 = 0) → (∃ (r12 : Int) (N11 : e_M), e_E X d YX11_in [.inl p3, .inl 0, .inl 2] (557, gn, e_RF, N6) (.inl (some (.inl r12)), (557, gn, e_RF, N11)) ∧ ((¬ r12 = 0 → e_G X (d + 1) YX11_open 40 [some (.inr (.inr 64)), some (.inl p1), some (.inl p2), some (.inl p3), none, none, none, none, none] [.inl 0, .inr (.inr 64)] (557, gn, e_RF, N11) o) ∧ (r12 = 0 → e_G X (d + 1) YX11_open 35 [some (.inr (.inr 64)), some (.inl p1), some (.inl p2), some (.inl p3), none, none, none, none, none] [.inr (.inr 64)] (557, gn, e_RF, N11) o)))))))))) : e_G X (d + 1) YX11_open 0 [some (.inr (.inr 64)), some (.inl p1), some (.inl p2), some (.inl p3), none, none, none, none, none] [] (557, gn, e_RF, M) o := by
  refine e_r_aload_n (pc' := 1) (by decide) dX11_open_0 rfl rfl rfl ?_
  refine e_r_iconst (pc' := 2) dX11_open_1 rfl (by decide) ?_
  refine e_r_puti (k := 0) (pc' := 5) cl_11 rfl (Nat.le_of_ble_eq_true rfl) rfl rfl fl_RX11_97 rfl (by decide +kernel) dX11_open_2 rfl ?_
  refine e_r_aload_n (pc' := 6) (by decide) dX11_open_5 rfl rfl rfl ?_
  refine e_r_iload_n (pc' := 7) dX11_open_6 rfl rfl rfl ?_
  refine e_r_iconst (pc' := 8) dX11_open_7 rfl (by decide) ?_
  refine e_r_bipush (pc' := 10) dX11_open_8 rfl (by decide) ?_
  obtain ⟨r2, N1, he3, h⟩ := h
  refine e_r_callS (av := [.inl p1, .inl 0, .inl 99]) (st := [.inr (.inr 64)]) mqYX11_in ml_RX11_131 (by simp [e_cat]) rfl rfl rfl dX11_open_10 (pc' := 13) rfl he3 ⟨Nat.le_refl _, Nat.le_refl _⟩ hmo ?_
  obtain ⟨ht4, hf5⟩ := h
  refine e_r_if_eq (tgt := 35) (pc' := 16) dX11_open_13 rfl rfl (fun c => ?_) (fun c => ?_)
  · have h := ht4 c
    exact h
  · have h := hf5 c
    refine e_r_iload_n (pc' := 17) dX11_open_16 rfl rfl rfl ?_
    refine e_r_iconst (pc' := 18) dX11_open_17 rfl (by decide) ?_
    refine e_r_bipush (pc' := 20) dX11_open_18 rfl (by decide) ?_
    obtain ⟨r7, N6, he8, h⟩ := h
    refine e_r_callS (av := [.inl p2, .inl 0, .inl 99]) (st := [.inr (.inr 64)]) mqYX11_in ml_RX11_131 (by simp [e_cat]) rfl rfl rfl dX11_open_20 (pc' := 23) rfl he8 ⟨Nat.le_refl _, Nat.le_refl _⟩ hmo ?_
    obtain ⟨ht9, hf10⟩ := h
    refine e_r_if_eq (tgt := 35) (pc' := 26) dX11_open_23 rfl rfl (fun c => ?_) (fun c => ?_)
    · have h := ht9 c
      exact h
    · have h := hf10 c
      refine e_r_iload_n (pc' := 27) dX11_open_26 rfl rfl rfl ?_
      refine e_r_iconst (pc' := 28) dX11_open_27 rfl (by decide) ?_
      refine e_r_iconst (pc' := 29) dX11_open_28 rfl (by decide) ?_
      obtain ⟨r12, N11, he13, h⟩ := h
      refine e_r_callS (av := [.inl p3, .inl 0, .inl 2]) (st := [.inr (.inr 64)]) mqYX11_in ml_RX11_131 (by simp [e_cat]) rfl rfl rfl dX11_open_29 (pc' := 32) rfl he13 ⟨Nat.le_refl _, Nat.le_refl _⟩ hmo ?_
      obtain ⟨ht14, hf15⟩ := h
      refine e_r_if_ne (tgt := 39) (pc' := 35) dX11_open_32 rfl rfl (fun c => ?_) (fun c => ?_)
      · have h := ht14 c
        refine e_r_iconst (pc' := 40) dX11_open_39 rfl (by decide) ?_
        exact h
      · have h := hf15 c
        exact h
theorem wp_X11_open_40 {X : e_X} {d gn : Nat} {o : e_O} (M : e_M) (p1 p2 p3 w0 : Int) (hmo : e_mn (557, gn, e_RF, M) o.2) (h : (∃ (r2 : Int) (N1 : e_M), e_E X d YX11_bad [.inr (.inr 64), .inl w0, .inl 1, .inl 1] (557, gn, e_RF, M) (.inl (some (.inl r2)), (557, gn, e_RF, N1)) ∧ ((r2 = 0 → e_G X (d + 1) YX11_open 62 [some (.inr (.inr 64)), some (.inl p1), some (.inl p2), some (.inl p3), some (.inl 0), some (.inl (-1)), some (.inl 0), some (.inl 0), none] [] (557, gn, e_RF, N1) o) ∧ (¬ (r2 = 0) → (o = (.inl (some (.inl 0)), (557, gn, e_RF, N1))))))) : e_G X (d + 1) YX11_open 40 [some (.inr (.inr 64)), some (.inl p1), some (.inl p2), some (.inl p3), none, none, none, none, none] [.inl w0, .inr (.inr 64)] (557, gn, e_RF, M) o := by
  refine e_r_iconst (pc' := 41) dX11_open_40 rfl (by decide) ?_
  refine e_r_iconst (pc' := 42) dX11_open_41 rfl (by decide) ?_
  obtain ⟨r2, N1, he3, h⟩ := h
  refine e_r_callV (a := 64) (av := [.inl w0, .inl 1, .inl 1]) (st := []) mqYX11_bad ml_RX11_173 cl_11 rfl (Nat.le_of_ble_eq_true rfl) (by simp [e_cat]) rfl rfl rfl dX11_open_42 (pc' := 45) rfl he3 ⟨Nat.le_refl _, Nat.le_refl _⟩ hmo ?_
  obtain ⟨ht4, hf5⟩ := h
  refine e_r_if_eq (tgt := 50) (pc' := 48) dX11_open_45 rfl rfl (fun c => ?_) (fun c => ?_)
  · have h := ht4 c
    refine e_r_iconst (pc' := 51) dX11_open_50 rfl (by decide) ?_
    refine e_r_istore (pc' := 53) (loc' := [some (.inr (.inr 64)), some (.inl p1), some (.inl p2), some (.inl p3), some (.inl 0), none, none, none, none]) dX11_open_51 rfl rfl rfl rfl ?_
    refine e_r_iconst (pc' := 54) dX11_open_53 rfl (by decide) ?_
    refine e_r_istore (pc' := 56) (loc' := [some (.inr (.inr 64)), some (.inl p1), some (.inl p2), some (.inl p3), some (.inl 0), some (.inl (-1)), none, none, none]) dX11_open_54 rfl rfl rfl rfl ?_
    refine e_r_iconst (pc' := 57) dX11_open_56 rfl (by decide) ?_
    refine e_r_istore (pc' := 59) (loc' := [some (.inr (.inr 64)), some (.inl p1), some (.inl p2), some (.inl p3), some (.inl 0), some (.inl (-1)), some (.inl 0), none, none]) dX11_open_57 rfl rfl rfl rfl ?_
    refine e_r_iconst (pc' := 60) dX11_open_59 rfl (by decide) ?_
    refine e_r_istore (pc' := 62) (loc' := [some (.inr (.inr 64)), some (.inl p1), some (.inl p2), some (.inl p3), some (.inl 0), some (.inl (-1)), some (.inl 0), some (.inl 0), none]) dX11_open_60 rfl rfl rfl rfl ?_
    exact h
  · have h := hf5 c
    refine e_r_iconst (pc' := 49) dX11_open_48 rfl (by decide) ?_
    exact e_r_iret (ty := .int) rfl (e_nI _) dX11_open_49 h
theorem wp_X11_open_62 {X : e_X} {d gn : Nat} {o : e_O} (M : e_M) (p1 p2 p3 v4 v5 v6 v7 : Int) (h : ((2 ≤ v7 → ((¬ p3 = 0 → ((¬ p3 = 1 → (o = (.inl (some (.inl v6)), (557, gn, e_RF, M)))) ∧ (p3 = 1 → (o = (.inl (some (.inl v5)), (557, gn, e_RF, M)))))) ∧ (p3 = 0 → (o = (.inl (some (.inl v4)), (557, gn, e_RF, M)))))) ∧ (¬ (2 ≤ v7) → e_G X (d + 1) YX11_open 71 [some (.inr (.inr 64)), some (.inl p1), some (.inl p2), some (.inl p3), some (.inl v4), some (.inl v5), some (.inl v6), some (.inl v7), some (.inl 0)] [] (557, gn, e_RF, M) o))) : e_G X (d + 1) YX11_open 62 [some (.inr (.inr 64)), some (.inl p1), some (.inl p2), some (.inl p3), some (.inl v4), some (.inl v5), some (.inl v6), some (.inl v7), none] [] (557, gn, e_RF, M) o := by
  refine e_r_iload (pc' := 64) dX11_open_62 rfl rfl ?_
  refine e_r_iconst (pc' := 65) dX11_open_64 rfl (by decide) ?_
  obtain ⟨ht1, hf2⟩ := h
  refine e_r_icmp_ge (tgt := 170) (pc' := 68) dX11_open_65 rfl rfl (fun c => ?_) (fun c => ?_)
  · have h := ht1 c
    refine e_r_iload_n (pc' := 171) dX11_open_170 rfl rfl rfl ?_
    obtain ⟨ht3, hf4⟩ := h
    refine e_r_if_ne (tgt := 179) (pc' := 174) dX11_open_171 rfl rfl (fun c => ?_) (fun c => ?_)
    · have h := ht3 c
      refine e_r_iload_n (pc' := 180) dX11_open_179 rfl rfl rfl ?_
      refine e_r_iconst (pc' := 181) dX11_open_180 rfl (by decide) ?_
      obtain ⟨ht5, hf6⟩ := h
      refine e_r_icmp_ne (tgt := 189) (pc' := 184) dX11_open_181 rfl rfl (fun c => ?_) (fun c => ?_)
      · have h := ht5 c
        refine e_r_iload (pc' := 191) dX11_open_189 rfl rfl ?_
        exact e_r_iret (ty := .int) rfl (e_nI _) dX11_open_191 h
      · have h := hf6 c
        refine e_r_iload (pc' := 186) dX11_open_184 rfl rfl ?_
        refine e_r_goto (pc' := 191) dX11_open_186 rfl ?_
        exact e_r_iret (ty := .int) rfl (e_nI _) dX11_open_191 h
    · have h := hf4 c
      refine e_r_iload (pc' := 176) dX11_open_174 rfl rfl ?_
      refine e_r_goto (pc' := 191) dX11_open_176 rfl ?_
      exact e_r_iret (ty := .int) rfl (e_nI _) dX11_open_191 h
  · have h := hf2 c
    refine e_r_iconst (pc' := 69) dX11_open_68 rfl (by decide) ?_
    refine e_r_istore (pc' := 71) (loc' := [some (.inr (.inr 64)), some (.inl p1), some (.inl p2), some (.inl p3), some (.inl v4), some (.inl v5), some (.inl v6), some (.inl v7), some (.inl 0)]) dX11_open_69 rfl rfl rfl rfl ?_
    exact h
theorem wp_X11_open_71 {X : e_X} {d gn : Nat} {o : e_O} (M : e_M) (p1 p2 p3 v4 v5 v6 v7 v8 : Int) (hmo : e_mn (557, gn, e_RF, M) o.2) (h : ((2 ≤ v8 → e_G X (d + 1) YX11_open 62 [some (.inr (.inr 64)), some (.inl p1), some (.inl p2), some (.inl p3), some (.inl v4), some (.inl v5), some (.inl v6), some (.inl (e_w (v7 + 1))), none] [] (557, gn, e_RF, M) o) ∧ (¬ (2 ≤ v8) → (∃ (r4 : Int) (N3 : e_M), e_E X d YX11_isBest [.inl v7, .inl v8, .inl p1, .inl p2] (557, gn, e_RF, M) (.inl (some (.inl r4)), (557, gn, e_RF, N3)) ∧ ((r4 = 0 → e_G X (d + 1) YX11_open 71 [some (.inr (.inr 64)), some (.inl p1), some (.inl p2), some (.inl p3), some (.inl v4), some (.inl v5), some (.inl v6), some (.inl v7), some (.inl (e_w (v8 + 1)))] [] (557, gn, e_RF, N3) o) ∧ (¬ (r4 = 0) → (∃ (r9 : Int) (N8 : e_M), e_E X d YX11_isBest [.inl v8, .inl v7, .inl p1, .inl p2] (557, gn, e_RF, N3) (.inl (some (.inl r9)), (557, gn, e_RF, N8)) ∧ ((¬ r9 = 0 → ((¬ v4 = 0 → e_G X (d + 1) YX11_open 133 [some (.inr (.inr 64)), some (.inl p1), some (.inl p2), some (.inl p3), some (.inl v4), some (.inl v5), some (.inl v6), some (.inl v7), some (.inl v8)] [.inl v6] (557, gn, e_RF, N8) o) ∧ (v4 = 0 → (∃ (r16 : Int) (N15 : e_M), e_E X d YX11_hasBy [.inl v7, .inl v8, .inl p1, .inl p2] (557, gn, e_RF, N8) (.inl (some (.inl r16)), (557, gn, e_RF, N15)) ∧ (∃ (r19 : Int) (N18 : e_M), e_E X d YX11_hasBy [.inl v8, .inl v7, .inl p1, .inl p2] (557, gn, e_RF, N15) (.inl (some (.inl r19)), (557, gn, e_RF, N18)) ∧ e_G X (d + 1) YX11_open 133 [some (.inr (.inr 64)), some (.inl p1), some (.inl p2), some (.inl p3), some (.inl v4), some (.inl v5), some (.inl v6), some (.inl v7), some (.inl v8)] [.inl (e_w (r16 + r19))] (557, gn, e_RF, N18) o))))) ∧ (r9 = 0 → e_G X (d + 1) YX11_open 71 [some (.inr (.inr 64)), some (.inl p1), some (.inl p2), some (.inl p3), some (.inl v4), some (.inl v5), some (.inl v6), some (.inl v7), some (.inl (e_w (v8 + 1)))] [] (557, gn, e_RF, N8) o))))))))) : e_G X (d + 1) YX11_open 71 [some (.inr (.inr 64)), some (.inl p1), some (.inl p2), some (.inl p3), some (.inl v4), some (.inl v5), some (.inl v6), some (.inl v7), some (.inl v8)] [] (557, gn, e_RF, M) o := by
  refine e_r_iload (pc' := 73) dX11_open_71 rfl rfl ?_
  refine e_r_iconst (pc' := 74) dX11_open_73 rfl (by decide) ?_
  obtain ⟨ht1, hf2⟩ := h
  refine e_r_icmp_ge (tgt := 164) (pc' := 77) dX11_open_74 rfl rfl (fun c => ?_) (fun c => ?_)
  · have h := ht1 c
    refine e_r_iinc (pc' := 167) (loc' := [some (.inr (.inr 64)), some (.inl p1), some (.inl p2), some (.inl p3), some (.inl v4), some (.inl v5), some (.inl v6), some (.inl (e_w (v7 + 1))), some (.inl v8)]) dX11_open_164 rfl rfl rfl rfl rfl ?_
    refine e_r_goto (pc' := 62) dX11_open_167 rfl ?_
    exact e_forget (m := [true, true, true, true, true, true, true, true, false]) h rfl
  · have h := hf2 c
    refine e_r_iload (pc' := 79) dX11_open_77 rfl rfl ?_
    refine e_r_iload (pc' := 81) dX11_open_79 rfl rfl ?_
    refine e_r_iload_n (pc' := 82) dX11_open_81 rfl rfl rfl ?_
    refine e_r_iload_n (pc' := 83) dX11_open_82 rfl rfl rfl ?_
    obtain ⟨r4, N3, he5, h⟩ := h
    refine e_r_callS (av := [.inl v7, .inl v8, .inl p1, .inl p2]) (st := []) mqYX11_isBest ml_RX11_351 (by simp [e_cat]) rfl rfl rfl dX11_open_83 (pc' := 86) rfl he5 ⟨Nat.le_refl _, Nat.le_refl _⟩ hmo ?_
    obtain ⟨ht6, hf7⟩ := h
    refine e_r_if_eq (tgt := 158) (pc' := 89) dX11_open_86 rfl rfl (fun c => ?_) (fun c => ?_)
    · have h := ht6 c
      refine e_r_iinc (pc' := 161) (loc' := [some (.inr (.inr 64)), some (.inl p1), some (.inl p2), some (.inl p3), some (.inl v4), some (.inl v5), some (.inl v6), some (.inl v7), some (.inl (e_w (v8 + 1)))]) dX11_open_158 rfl rfl rfl rfl rfl ?_
      refine e_r_goto (pc' := 71) dX11_open_161 rfl ?_
      exact h
    · have h := hf7 c
      refine e_r_iload (pc' := 91) dX11_open_89 rfl rfl ?_
      refine e_r_iload (pc' := 93) dX11_open_91 rfl rfl ?_
      refine e_r_iload_n (pc' := 94) dX11_open_93 rfl rfl rfl ?_
      refine e_r_iload_n (pc' := 95) dX11_open_94 rfl rfl rfl ?_
      obtain ⟨r9, N8, he10, h⟩ := h
      refine e_r_callS (av := [.inl v8, .inl v7, .inl p1, .inl p2]) (st := []) mqYX11_isBest ml_RX11_351 (by simp [e_cat]) rfl rfl rfl dX11_open_95 (pc' := 98) rfl he10 ⟨Nat.le_refl _, Nat.le_refl _⟩ hmo ?_
      obtain ⟨ht11, hf12⟩ := h
      refine e_r_if_ne (tgt := 104) (pc' := 101) dX11_open_98 rfl rfl (fun c => ?_) (fun c => ?_)
      · have h := ht11 c
        refine e_r_iload (pc' := 106) dX11_open_104 rfl rfl ?_
        obtain ⟨ht13, hf14⟩ := h
        refine e_r_if_ne (tgt := 131) (pc' := 109) dX11_open_106 rfl rfl (fun c => ?_) (fun c => ?_)
        · have h := ht13 c
          refine e_r_iload (pc' := 133) dX11_open_131 rfl rfl ?_
          exact h
        · have h := hf14 c
          refine e_r_iload (pc' := 111) dX11_open_109 rfl rfl ?_
          refine e_r_iload (pc' := 113) dX11_open_111 rfl rfl ?_
          refine e_r_iload_n (pc' := 114) dX11_open_113 rfl rfl rfl ?_
          refine e_r_iload_n (pc' := 115) dX11_open_114 rfl rfl rfl ?_
          obtain ⟨r16, N15, he17, h⟩ := h
          refine e_r_callS (av := [.inl v7, .inl v8, .inl p1, .inl p2]) (st := []) mqYX11_hasBy ml_RX11_347 (by simp [e_cat]) rfl rfl rfl dX11_open_115 (pc' := 118) rfl he17 ⟨Nat.le_refl _, Nat.le_refl _⟩ hmo ?_
          refine e_r_iload (pc' := 120) dX11_open_118 rfl rfl ?_
          refine e_r_iload (pc' := 122) dX11_open_120 rfl rfl ?_
          refine e_r_iload_n (pc' := 123) dX11_open_122 rfl rfl rfl ?_
          refine e_r_iload_n (pc' := 124) dX11_open_123 rfl rfl rfl ?_
          obtain ⟨r19, N18, he20, h⟩ := h
          refine e_r_callS (av := [.inl v8, .inl v7, .inl p1, .inl p2]) (st := [.inl r16]) mqYX11_hasBy ml_RX11_347 (by simp [e_cat]) rfl rfl rfl dX11_open_124 (pc' := 127) rfl he20 ⟨Nat.le_refl _, Nat.le_refl _⟩ hmo ?_
          refine e_r_iadd (pc' := 128) dX11_open_127 rfl ?_
          refine e_r_goto (pc' := 133) dX11_open_128 rfl ?_
          exact h
      · have h := hf12 c
        refine e_r_goto (pc' := 158) dX11_open_101 rfl ?_
        refine e_r_iinc (pc' := 161) (loc' := [some (.inr (.inr 64)), some (.inl p1), some (.inl p2), some (.inl p3), some (.inl v4), some (.inl v5), some (.inl v6), some (.inl v7), some (.inl (e_w (v8 + 1)))]) dX11_open_158 rfl rfl rfl rfl rfl ?_
        refine e_r_goto (pc' := 71) dX11_open_161 rfl ?_
        exact h
theorem wp_X11_open_133 {X : e_X} {d gn : Nat} {o : e_O} (M : e_M) (p1 p2 p3 v4 v5 v6 v7 v8 w0 : Int) (h : ((¬ v4 = 0 → e_G X (d + 1) YX11_open 71 [some (.inr (.inr 64)), some (.inl p1), some (.inl p2), some (.inl p3), some (.inl (e_w (v4 + 1))), some (.inl v5), some (.inl w0), some (.inl v7), some (.inl (e_w (v8 + 1)))] [] (557, gn, e_RF, M) o) ∧ (v4 = 0 → e_G X (d + 1) YX11_open 71 [some (.inr (.inr 64)), some (.inl p1), some (.inl p2), some (.inl p3), some (.inl (e_w (v4 + 1))), some (.inl (e_w ((e_w (10 * v7)) + v8))), some (.inl w0), some (.inl v7), some (.inl (e_w (v8 + 1)))] [] (557, gn, e_RF, M) o))) : e_G X (d + 1) YX11_open 133 [some (.inr (.inr 64)), some (.inl p1), some (.inl p2), some (.inl p3), some (.inl v4), some (.inl v5), some (.inl v6), some (.inl v7), some (.inl v8)] [.inl w0] (557, gn, e_RF, M) o := by
  refine e_r_istore (pc' := 135) (loc' := [some (.inr (.inr 64)), some (.inl p1), some (.inl p2), some (.inl p3), some (.inl v4), some (.inl v5), some (.inl w0), some (.inl v7), some (.inl v8)]) dX11_open_133 rfl rfl rfl rfl ?_
  refine e_r_iload (pc' := 137) dX11_open_135 rfl rfl ?_
  obtain ⟨ht1, hf2⟩ := h
  refine e_r_if_ne (tgt := 151) (pc' := 140) dX11_open_137 rfl rfl (fun c => ?_) (fun c => ?_)
  · have h := ht1 c
    refine e_r_iload (pc' := 153) dX11_open_151 rfl rfl ?_
    refine e_r_istore (pc' := 155) (loc' := [some (.inr (.inr 64)), some (.inl p1), some (.inl p2), some (.inl p3), some (.inl v4), some (.inl v5), some (.inl w0), some (.inl v7), some (.inl v8)]) dX11_open_153 rfl rfl rfl rfl ?_
    refine e_r_iinc (pc' := 158) (loc' := [some (.inr (.inr 64)), some (.inl p1), some (.inl p2), some (.inl p3), some (.inl (e_w (v4 + 1))), some (.inl v5), some (.inl w0), some (.inl v7), some (.inl v8)]) dX11_open_155 rfl rfl rfl rfl rfl ?_
    refine e_r_iinc (pc' := 161) (loc' := [some (.inr (.inr 64)), some (.inl p1), some (.inl p2), some (.inl p3), some (.inl (e_w (v4 + 1))), some (.inl v5), some (.inl w0), some (.inl v7), some (.inl (e_w (v8 + 1)))]) dX11_open_158 rfl rfl rfl rfl rfl ?_
    refine e_r_goto (pc' := 71) dX11_open_161 rfl ?_
    exact h
  · have h := hf2 c
    refine e_r_bipush (pc' := 142) dX11_open_140 rfl (by decide) ?_
    refine e_r_iload (pc' := 144) dX11_open_142 rfl rfl ?_
    refine e_r_imul (pc' := 145) dX11_open_144 rfl ?_
    refine e_r_iload (pc' := 147) dX11_open_145 rfl rfl ?_
    refine e_r_iadd (pc' := 148) dX11_open_147 rfl ?_
    refine e_r_goto (pc' := 153) dX11_open_148 rfl ?_
    refine e_r_istore (pc' := 155) (loc' := [some (.inr (.inr 64)), some (.inl p1), some (.inl p2), some (.inl p3), some (.inl v4), some (.inl (e_w ((e_w (10 * v7)) + v8))), some (.inl w0), some (.inl v7), some (.inl v8)]) dX11_open_153 rfl rfl rfl rfl ?_
    refine e_r_iinc (pc' := 158) (loc' := [some (.inr (.inr 64)), some (.inl p1), some (.inl p2), some (.inl p3), some (.inl (e_w (v4 + 1))), some (.inl (e_w ((e_w (10 * v7)) + v8))), some (.inl w0), some (.inl v7), some (.inl v8)]) dX11_open_155 rfl rfl rfl rfl rfl ?_
    refine e_r_iinc (pc' := 161) (loc' := [some (.inr (.inr 64)), some (.inl p1), some (.inl p2), some (.inl p3), some (.inl (e_w (v4 + 1))), some (.inl (e_w ((e_w (10 * v7)) + v8))), some (.inl w0), some (.inl v7), some (.inl (e_w (v8 + 1)))]) dX11_open_158 rfl rfl rfl rfl rfl ?_
    refine e_r_goto (pc' := 71) dX11_open_161 rfl ?_
    exact h
theorem wp_X11_open_35 {X : e_X} {d gn : Nat} {o : e_O} (M : e_M) (p1 p2 p3 : Int) (h : e_G X (d + 1) YX11_open 40 [some (.inr (.inr 64)), some (.inl p1), some (.inl p2), some (.inl p3), none, none, none, none, none] [.inl 1, .inr (.inr 64)] (557, gn, e_RF, M) o) : e_G X (d + 1) YX11_open 35 [some (.inr (.inr 64)), some (.inl p1), some (.inl p2), some (.inl p3), none, none, none, none, none] [.inr (.inr 64)] (557, gn, e_RF, M) o := by
  refine e_r_iconst (pc' := 36) dX11_open_35 rfl (by decide) ?_
  refine e_r_goto (pc' := 40) dX11_open_36 rfl ?_
  exact h
theorem wp_X11_givenBy_0 {X : e_X} {d gn : Nat} {o : e_O} (M : e_M) (p1 p2 : Int) (h : e_G X (d + 1) YX11_givenBy 5 [some (.inr (.inr 64)), some (.inl p1), some (.inl p2), some (.inl 0), some (.inl 0)] [] (557, gn, e_RF, M) o) : e_G X (d + 1) YX11_givenBy 0 [some (.inr (.inr 64)), some (.inl p1), some (.inl p2), none, none] [] (557, gn, e_RF, M) o := by
  refine e_r_iconst (pc' := 1) dX11_givenBy_0 rfl (by decide) ?_
  refine e_r_istore_n (pc' := 2) (loc' := [some (.inr (.inr 64)), some (.inl p1), some (.inl p2), some (.inl 0), none]) dX11_givenBy_1 rfl rfl rfl rfl rfl ?_
  refine e_r_iconst (pc' := 3) dX11_givenBy_2 rfl (by decide) ?_
  refine e_r_istore (pc' := 5) (loc' := [some (.inr (.inr 64)), some (.inl p1), some (.inl p2), some (.inl 0), some (.inl 0)]) dX11_givenBy_3 rfl rfl rfl rfl ?_
  exact h
theorem wp_X11_givenBy_5 {X : e_X} {d gn : Nat} {o : e_O} (M : e_M) (p1 p2 v3 v4 : Int) (hmo : e_mn (557, gn, e_RF, M) o.2) (h : (((M 68 0) ≤ v4 → (o = (.inl (some (.inl v3)), (557, gn, e_RF, M)))) ∧ (¬ ((M 68 0) ≤ v4) → (∃ (r4 : Int) (N3 : e_M), e_E X d YX11_has [.inl p1, .inl v4] (557, gn, e_RF, M) (.inl (some (.inl r4)), (557, gn, e_RF, N3)) ∧ ((r4 = 0 → e_G X (d + 1) YX11_givenBy 5 [some (.inr (.inr 64)), some (.inl p1), some (.inl p2), some (.inl (e_w (v3 + 0))), some (.inl (e_w (v4 + 1)))] [] (557, gn, e_RF, N3) o) ∧ (¬ (r4 = 0) → ((0 ≤ (e_w (6 + v4)) ∧ (e_w (6 + v4)) < 56) ∧ (∃ (r10 : Int) (N9 : e_M), e_E X d YX11_less [.inl p2, .inl (N3 532 (e_w (6 + v4)).toNat)] (557, gn, e_RF, N3) (.inl (some (.inl r10)), (557, gn, e_RF, N9)) ∧ e_G X (d + 1) YX11_givenBy 5 [some (.inr (.inr 64)), some (.inl p1), some (.inl p2), some (.inl (e_w (v3 + r10))), some (.inl (e_w (v4 + 1)))] [] (557, gn, e_RF, N9) o)))))))) : e_G X (d + 1) YX11_givenBy 5 [some (.inr (.inr 64)), some (.inl p1), some (.inl p2), some (.inl v3), some (.inl v4)] [] (557, gn, e_RF, M) o := by
  refine e_r_iload (pc' := 7) dX11_givenBy_5 rfl rfl ?_
  refine e_r_aload_n (pc' := 8) (by decide) dX11_givenBy_7 rfl rfl rfl ?_
  refine e_r_getr (k := 12) (q := 68) (pc' := 11) cl_11 rfl (Nat.le_of_ble_eq_true rfl) rfl rfl fl_RX11_23 rfl (Nat.le_of_ble_eq_true rfl) dX11_givenBy_8 rfl ?_
  refine e_r_iconst (pc' := 12) dX11_givenBy_11 rfl (by decide) ?_
  refine e_r_iald (j9 := 0) (pc' := 13) rfl (Nat.le_of_ble_eq_true rfl) (by decide) (by decide) rfl dX11_givenBy_12 rfl ?_
  obtain ⟨ht1, hf2⟩ := h
  refine e_r_icmp_ge (tgt := 52) (pc' := 16) dX11_givenBy_13 rfl rfl (fun c => ?_) (fun c => ?_)
  · have h := ht1 c
    refine e_r_iload_n (pc' := 53) dX11_givenBy_52 rfl rfl rfl ?_
    exact e_r_iret (ty := .int) rfl (e_nI _) dX11_givenBy_53 h
  · have h := hf2 c
    refine e_r_iload_n (pc' := 17) dX11_givenBy_16 rfl rfl rfl ?_
    refine e_r_iload_n (pc' := 18) dX11_givenBy_17 rfl rfl rfl ?_
    refine e_r_iload (pc' := 20) dX11_givenBy_18 rfl rfl ?_
    obtain ⟨r4, N3, he5, h⟩ := h
    refine e_r_callS (av := [.inl p1, .inl v4]) (st := [.inl v3]) mqYX11_has ml_RX11_255 (by simp [e_cat]) rfl rfl rfl dX11_givenBy_20 (pc' := 23) rfl he5 ⟨Nat.le_refl _, Nat.le_refl _⟩ hmo ?_
    obtain ⟨ht6, hf7⟩ := h
    refine e_r_if_eq (tgt := 43) (pc' := 26) dX11_givenBy_23 rfl rfl (fun c => ?_) (fun c => ?_)
    · have h := ht6 c
      refine e_r_iconst (pc' := 44) dX11_givenBy_43 rfl (by decide) ?_
      refine e_r_iadd (pc' := 45) dX11_givenBy_44 rfl ?_
      refine e_r_istore_n (pc' := 46) (loc' := [some (.inr (.inr 64)), some (.inl p1), some (.inl p2), some (.inl (e_w (v3 + 0))), some (.inl v4)]) dX11_givenBy_45 rfl rfl rfl rfl rfl ?_
      refine e_r_iinc (pc' := 49) (loc' := [some (.inr (.inr 64)), some (.inl p1), some (.inl p2), some (.inl (e_w (v3 + 0))), some (.inl (e_w (v4 + 1)))]) dX11_givenBy_46 rfl rfl rfl rfl rfl ?_
      refine e_r_goto (pc' := 5) dX11_givenBy_49 rfl ?_
      exact h
    · have h := hf7 c
      refine e_r_iload_n (pc' := 27) dX11_givenBy_26 rfl rfl rfl ?_
      refine e_r_aload_n (pc' := 28) (by decide) dX11_givenBy_27 rfl rfl rfl ?_
      refine e_r_getr (k := 31) (q := 532) (pc' := 31) cl_11 rfl (Nat.le_of_ble_eq_true rfl) rfl rfl fl_RX11_73 rfl (Nat.le_of_ble_eq_true rfl) dX11_givenBy_28 rfl ?_
      refine e_r_bipush (pc' := 33) dX11_givenBy_31 rfl (by decide) ?_
      refine e_r_iload (pc' := 35) dX11_givenBy_33 rfl rfl ?_
      refine e_r_iadd (pc' := 36) dX11_givenBy_35 rfl ?_
      obtain ⟨hb8, h⟩ := h
      refine e_r_iald (j9 := (e_w (6 + v4)).toNat) (pc' := 37) rfl (Nat.le_of_ble_eq_true rfl) hb8.1 hb8.2 rfl dX11_givenBy_36 rfl ?_
      obtain ⟨r10, N9, he11, h⟩ := h
      refine e_r_callS (av := [.inl p2, .inl (N3 532 (e_w (6 + v4)).toNat)]) (st := [.inl v3]) mqYX11_less ml_RX11_237 (by simp [e_cat]) rfl rfl rfl dX11_givenBy_37 (pc' := 40) rfl he11 ⟨Nat.le_refl _, Nat.le_refl _⟩ hmo ?_
      refine e_r_goto (pc' := 44) dX11_givenBy_40 rfl ?_
      refine e_r_iadd (pc' := 45) dX11_givenBy_44 rfl ?_
      refine e_r_istore_n (pc' := 46) (loc' := [some (.inr (.inr 64)), some (.inl p1), some (.inl p2), some (.inl (e_w (v3 + r10))), some (.inl v4)]) dX11_givenBy_45 rfl rfl rfl rfl rfl ?_
      refine e_r_iinc (pc' := 49) (loc' := [some (.inr (.inr 64)), some (.inl p1), some (.inl p2), some (.inl (e_w (v3 + r10))), some (.inl (e_w (v4 + 1)))]) dX11_givenBy_46 rfl rfl rfl rfl rfl ?_
      refine e_r_goto (pc' := 5) dX11_givenBy_49 rfl ?_
      exact h
theorem wp_X11_share_0 {X : e_X} {d gn : Nat} {o : e_O} (M : e_M) (p1 p2 p3 : Int) (hmo : e_mn (557, gn, e_RF, M) o.2) (h : (∃ (r2 : Int) (N1 : e_M), e_E X d YX11_isPerson [.inr (.inr 64), .inl p1] (557, gn, e_RF, (e_up M 64 0 0)) (.inl (some (.inl r2)), (557, gn, e_RF, N1)) ∧ ((¬ r2 = 0 → e_G X (d + 1) YX11_share 19 [some (.inr (.inr 64)), some (.inl p1), some (.inl p2), some (.inl p3), none] [.inl 0, .inr (.inr 64)] (557, gn, e_RF, N1) o) ∧ (r2 = 0 → e_G X (d + 1) YX11_share 19 [some (.inr (.inr 64)), some (.inl p1), some (.inl p2), some (.inl p3), none] [.inl 1, .inr (.inr 64)] (557, gn, e_RF, N1) o)))) : e_G X (d + 1) YX11_share 0 [some (.inr (.inr 64)), some (.inl p1), some (.inl p2), some (.inl p3), none] [] (557, gn, e_RF, M) o := by
  refine e_r_aload_n (pc' := 1) (by decide) dX11_share_0 rfl rfl rfl ?_
  refine e_r_iconst (pc' := 2) dX11_share_1 rfl (by decide) ?_
  refine e_r_puti (k := 0) (pc' := 5) cl_11 rfl (Nat.le_of_ble_eq_true rfl) rfl rfl fl_RX11_97 rfl (by decide +kernel) dX11_share_2 rfl ?_
  refine e_r_aload_n (pc' := 6) (by decide) dX11_share_5 rfl rfl rfl ?_
  refine e_r_aload_n (pc' := 7) (by decide) dX11_share_6 rfl rfl rfl ?_
  refine e_r_iload_n (pc' := 8) dX11_share_7 rfl rfl rfl ?_
  obtain ⟨r2, N1, he3, h⟩ := h
  refine e_r_callV (a := 64) (av := [.inl p1]) (st := [.inr (.inr 64)]) mqYX11_isPerson ml_RX11_325 cl_11 rfl (Nat.le_of_ble_eq_true rfl) (by simp [e_cat]) rfl rfl rfl dX11_share_8 (pc' := 11) rfl he3 ⟨Nat.le_refl _, Nat.le_refl _⟩ hmo ?_
  obtain ⟨ht4, hf5⟩ := h
  refine e_r_if_ne (tgt := 18) (pc' := 14) dX11_share_11 rfl rfl (fun c => ?_) (fun c => ?_)
  · have h := ht4 c
    refine e_r_iconst (pc' := 19) dX11_share_18 rfl (by decide) ?_
    exact h
  · have h := hf5 c
    refine e_r_iconst (pc' := 15) dX11_share_14 rfl (by decide) ?_
    refine e_r_goto (pc' := 19) dX11_share_15 rfl ?_
    exact h
theorem wp_X11_share_19 {X : e_X} {d gn : Nat} {o : e_O} (M : e_M) (p1 p2 p3 w0 : Int) (hmo : e_mn (557, gn, e_RF, M) o.2) (h : (∃ (r2 : Int) (N1 : e_M), e_E X d YX11_bad [.inr (.inr 64), .inl w0, .inl 1, .inl 0] (557, gn, e_RF, M) (.inl (some (.inl r2)), (557, gn, e_RF, N1)) ∧ ((¬ r2 = 0 → (o = (.inl (some (.inl 0)), (557, gn, e_RF, N1)))) ∧ (r2 = 0 → (∃ (r7 : Int) (N6 : e_M), e_E X d YX11_in [.inl p2, .inl 0, .inl (e_w ((e_shl 1 (N1 68 0)) - 1))] (557, gn, e_RF, N1) (.inl (some (.inl r7)), (557, gn, e_RF, N6)) ∧ ((r7 = 0 → e_G X (d + 1) YX11_share 57 [some (.inr (.inr 64)), some (.inl p1), some (.inl p2), some (.inl p3), none] [.inr (.inr 64)] (557, gn, e_RF, N6) o) ∧ (¬ (r7 = 0) → (∃ (r12 : Int) (N11 : e_M), e_E X d YX11_in [.inl p3, .inl 0, .inl 9999] (557, gn, e_RF, N6) (.inl (some (.inl r12)), (557, gn, e_RF, N11)) ∧ ((¬ r12 = 0 → e_G X (d + 1) YX11_share 62 [some (.inr (.inr 64)), some (.inl p1), some (.inl p2), some (.inl p3), none] [.inl 0, .inr (.inr 64)] (557, gn, e_RF, N11) o) ∧ (r12 = 0 → e_G X (d + 1) YX11_share 57 [some (.inr (.inr 64)), some (.inl p1), some (.inl p2), some (.inl p3), none] [.inr (.inr 64)] (557, gn, e_RF, N11) o)))))))))) : e_G X (d + 1) YX11_share 19 [some (.inr (.inr 64)), some (.inl p1), some (.inl p2), some (.inl p3), none] [.inl w0, .inr (.inr 64)] (557, gn, e_RF, M) o := by
  refine e_r_iconst (pc' := 20) dX11_share_19 rfl (by decide) ?_
  refine e_r_iconst (pc' := 21) dX11_share_20 rfl (by decide) ?_
  obtain ⟨r2, N1, he3, h⟩ := h
  refine e_r_callV (a := 64) (av := [.inl w0, .inl 1, .inl 0]) (st := []) mqYX11_bad ml_RX11_173 cl_11 rfl (Nat.le_of_ble_eq_true rfl) (by simp [e_cat]) rfl rfl rfl dX11_share_21 (pc' := 24) rfl he3 ⟨Nat.le_refl _, Nat.le_refl _⟩ hmo ?_
  obtain ⟨ht4, hf5⟩ := h
  refine e_r_if_ne (tgt := 70) (pc' := 27) dX11_share_24 rfl rfl (fun c => ?_) (fun c => ?_)
  · have h := ht4 c
    refine e_r_iconst (pc' := 71) dX11_share_70 rfl (by decide) ?_
    exact e_r_iret (ty := .int) rfl (e_nI _) dX11_share_71 h
  · have h := hf5 c
    refine e_r_aload_n (pc' := 28) (by decide) dX11_share_27 rfl rfl rfl ?_
    refine e_r_iload_n (pc' := 29) dX11_share_28 rfl rfl rfl ?_
    refine e_r_iconst (pc' := 30) dX11_share_29 rfl (by decide) ?_
    refine e_r_iconst (pc' := 31) dX11_share_30 rfl (by decide) ?_
    refine e_r_aload_n (pc' := 32) (by decide) dX11_share_31 rfl rfl rfl ?_
    refine e_r_getr (k := 12) (q := 68) (pc' := 35) cl_11 rfl (Nat.le_of_ble_eq_true rfl) rfl rfl fl_RX11_23 rfl (Nat.le_of_ble_eq_true rfl) dX11_share_32 rfl ?_
    refine e_r_iconst (pc' := 36) dX11_share_35 rfl (by decide) ?_
    refine e_r_iald (j9 := 0) (pc' := 37) rfl (Nat.le_of_ble_eq_true rfl) (by decide) (by decide) rfl dX11_share_36 rfl ?_
    refine e_r_ishl (pc' := 38) dX11_share_37 rfl ?_
    refine e_r_iconst (pc' := 39) dX11_share_38 rfl (by decide) ?_
    refine e_r_isub (pc' := 40) dX11_share_39 rfl ?_
    obtain ⟨r7, N6, he8, h⟩ := h
    refine e_r_callS (av := [.inl p2, .inl 0, .inl (e_w ((e_shl 1 (N1 68 0)) - 1))]) (st := [.inr (.inr 64)]) mqYX11_in ml_RX11_131 (by simp [e_cat]) rfl rfl rfl dX11_share_40 (pc' := 43) rfl he8 ⟨Nat.le_refl _, Nat.le_refl _⟩ hmo ?_
    obtain ⟨ht9, hf10⟩ := h
    refine e_r_if_eq (tgt := 57) (pc' := 46) dX11_share_43 rfl rfl (fun c => ?_) (fun c => ?_)
    · have h := ht9 c
      exact h
    · have h := hf10 c
      refine e_r_iload_n (pc' := 47) dX11_share_46 rfl rfl rfl ?_
      refine e_r_iconst (pc' := 48) dX11_share_47 rfl (by decide) ?_
      refine e_r_sipush (pc' := 51) dX11_share_48 rfl (by decide) ?_
      obtain ⟨r12, N11, he13, h⟩ := h
      refine e_r_callS (av := [.inl p3, .inl 0, .inl 9999]) (st := [.inr (.inr 64)]) mqYX11_in ml_RX11_131 (by simp [e_cat]) rfl rfl rfl dX11_share_51 (pc' := 54) rfl he13 ⟨Nat.le_refl _, Nat.le_refl _⟩ hmo ?_
      obtain ⟨ht14, hf15⟩ := h
      refine e_r_if_ne (tgt := 61) (pc' := 57) dX11_share_54 rfl rfl (fun c => ?_) (fun c => ?_)
      · have h := ht14 c
        refine e_r_iconst (pc' := 62) dX11_share_61 rfl (by decide) ?_
        exact h
      · have h := hf15 c
        exact h
theorem wp_X11_share_62 {X : e_X} {d gn : Nat} {o : e_O} (M : e_M) (p1 p2 p3 w0 : Int) (hmo : e_mn (557, gn, e_RF, M) o.2) (h : (∃ (r2 : Int) (N1 : e_M), e_E X d YX11_bad [.inr (.inr 64), .inl w0, .inl 2, .inl 1] (557, gn, e_RF, M) (.inl (some (.inl r2)), (557, gn, e_RF, N1)) ∧ ((r2 = 0 → e_G X (d + 1) YX11_share 75 [some (.inr (.inr 64)), some (.inl p1), some (.inl p2), some (.inl p3), some (.inl 0)] [] (557, gn, e_RF, N1) o) ∧ (¬ (r2 = 0) → (o = (.inl (some (.inl 0)), (557, gn, e_RF, N1))))))) : e_G X (d + 1) YX11_share 62 [some (.inr (.inr 64)), some (.inl p1), some (.inl p2), some (.inl p3), none] [.inl w0, .inr (.inr 64)] (557, gn, e_RF, M) o := by
  refine e_r_iconst (pc' := 63) dX11_share_62 rfl (by decide) ?_
  refine e_r_iconst (pc' := 64) dX11_share_63 rfl (by decide) ?_
  obtain ⟨r2, N1, he3, h⟩ := h
  refine e_r_callV (a := 64) (av := [.inl w0, .inl 2, .inl 1]) (st := []) mqYX11_bad ml_RX11_173 cl_11 rfl (Nat.le_of_ble_eq_true rfl) (by simp [e_cat]) rfl rfl rfl dX11_share_64 (pc' := 67) rfl he3 ⟨Nat.le_refl _, Nat.le_refl _⟩ hmo ?_
  obtain ⟨ht4, hf5⟩ := h
  refine e_r_if_eq (tgt := 72) (pc' := 70) dX11_share_67 rfl rfl (fun c => ?_) (fun c => ?_)
  · have h := ht4 c
    refine e_r_iconst (pc' := 73) dX11_share_72 rfl (by decide) ?_
    refine e_r_istore (pc' := 75) (loc' := [some (.inr (.inr 64)), some (.inl p1), some (.inl p2), some (.inl p3), some (.inl 0)]) dX11_share_73 rfl rfl rfl rfl ?_
    exact h
  · have h := hf5 c
    refine e_r_iconst (pc' := 71) dX11_share_70 rfl (by decide) ?_
    exact e_r_iret (ty := .int) rfl (e_nI _) dX11_share_71 h
theorem wp_X11_share_75 {X : e_X} {d gn : Nat} {o : e_O} (M : e_M) (p1 p2 p3 v4 : Int) (hmo : e_mn (557, gn, e_RF, M) o.2) (h : ((0 ≤ (e_w (6 + p1)) ∧ (e_w (6 + p1)) < 56) ∧ (((M 532 (e_w (6 + p1)).toNat) ≤ v4 → e_G X (d + 1) YX11_share 108 [some (.inr (.inr 64)), some (.inl p1), some (.inl p2), some (.inl p3), some (.inl v4)] [] (557, gn, e_RF, M) o) ∧ (¬ ((M 532 (e_w (6 + p1)).toNat) ≤ v4) → (∃ (r5 : Int) (N4 : e_M), e_E X d YX11_givenBy [.inr (.inr 64), .inl p2, .inl (e_w (v4 + 1))] (557, gn, e_RF, M) (.inl (some (.inl r5)), (557, gn, e_RF, N4)) ∧ ((p3 < r5 → e_G X (d + 1) YX11_share 108 [some (.inr (.inr 64)), some (.inl p1), some (.inl p2), some (.inl p3), some (.inl v4)] [] (557, gn, e_RF, N4) o) ∧ (¬ (p3 < r5) → e_G X (d + 1) YX11_share 75 [some (.inr (.inr 64)), some (.inl p1), some (.inl p2), some (.inl p3), some (.inl (e_w (v4 + 1)))] [] (557, gn, e_RF, N4) o))))))) : e_G X (d + 1) YX11_share 75 [some (.inr (.inr 64)), some (.inl p1), some (.inl p2), some (.inl p3), some (.inl v4)] [] (557, gn, e_RF, M) o := by
  refine e_r_iload (pc' := 77) dX11_share_75 rfl rfl ?_
  refine e_r_aload_n (pc' := 78) (by decide) dX11_share_77 rfl rfl rfl ?_
  refine e_r_getr (k := 31) (q := 532) (pc' := 81) cl_11 rfl (Nat.le_of_ble_eq_true rfl) rfl rfl fl_RX11_73 rfl (Nat.le_of_ble_eq_true rfl) dX11_share_78 rfl ?_
  refine e_r_bipush (pc' := 83) dX11_share_81 rfl (by decide) ?_
  refine e_r_iload_n (pc' := 84) dX11_share_83 rfl rfl rfl ?_
  refine e_r_iadd (pc' := 85) dX11_share_84 rfl ?_
  obtain ⟨hb1, h⟩ := h
  refine e_r_iald (j9 := (e_w (6 + p1)).toNat) (pc' := 86) rfl (Nat.le_of_ble_eq_true rfl) hb1.1 hb1.2 rfl dX11_share_85 rfl ?_
  obtain ⟨ht2, hf3⟩ := h
  refine e_r_icmp_ge (tgt := 108) (pc' := 89) dX11_share_86 rfl rfl (fun c => ?_) (fun c => ?_)
  · have h := ht2 c
    exact h
  · have h := hf3 c
    refine e_r_aload_n (pc' := 90) (by decide) dX11_share_89 rfl rfl rfl ?_
    refine e_r_iload_n (pc' := 91) dX11_share_90 rfl rfl rfl ?_
    refine e_r_iload (pc' := 93) dX11_share_91 rfl rfl ?_
    refine e_r_iconst (pc' := 94) dX11_share_93 rfl (by decide) ?_
    refine e_r_iadd (pc' := 95) dX11_share_94 rfl ?_
    obtain ⟨r5, N4, he6, h⟩ := h
    refine e_r_callV (a := 64) (av := [.inl p2, .inl (e_w (v4 + 1))]) (st := []) mqYX11_givenBy ml_RX11_355 cl_11 rfl (Nat.le_of_ble_eq_true rfl) (by simp [e_cat]) rfl rfl rfl dX11_share_95 (pc' := 98) rfl he6 ⟨Nat.le_refl _, Nat.le_refl _⟩ hmo ?_
    refine e_r_iload_n (pc' := 99) dX11_share_98 rfl rfl rfl ?_
    obtain ⟨ht7, hf8⟩ := h
    refine e_r_icmp_gt (tgt := 108) (pc' := 102) dX11_share_99 rfl rfl (fun c => ?_) (fun c => ?_)
    · have h := ht7 c
      exact h
    · have h := hf8 c
      refine e_r_iinc (pc' := 105) (loc' := [some (.inr (.inr 64)), some (.inl p1), some (.inl p2), some (.inl p3), some (.inl (e_w (v4 + 1)))]) dX11_share_102 rfl rfl rfl rfl rfl ?_
      refine e_r_goto (pc' := 75) dX11_share_105 rfl ?_
      exact h
theorem wp_X11_share_108 {X : e_X} {d gn : Nat} {o : e_O} (M : e_M) (p1 p2 p3 v4 : Int) (hmo : e_mn (557, gn, e_RF, M) o.2) (h : (∃ (r2 : Int) (N1 : e_M), e_E X d YX11_has [.inl p2, .inl p1] (557, gn, e_RF, M) (.inl (some (.inl r2)), (557, gn, e_RF, N1)) ∧ ((r2 = 0 → (o = (.inl (some (.inl 0)), (557, gn, e_RF, N1)))) ∧ (¬ (r2 = 0) → (o = (.inl (some (.inl v4)), (557, gn, e_RF, N1))))))) : e_G X (d + 1) YX11_share 108 [some (.inr (.inr 64)), some (.inl p1), some (.inl p2), some (.inl p3), some (.inl v4)] [] (557, gn, e_RF, M) o := by
  refine e_r_iload_n (pc' := 109) dX11_share_108 rfl rfl rfl ?_
  refine e_r_iload_n (pc' := 110) dX11_share_109 rfl rfl rfl ?_
  obtain ⟨r2, N1, he3, h⟩ := h
  refine e_r_callS (av := [.inl p2, .inl p1]) (st := []) mqYX11_has ml_RX11_255 (by simp [e_cat]) rfl rfl rfl dX11_share_110 (pc' := 113) rfl he3 ⟨Nat.le_refl _, Nat.le_refl _⟩ hmo ?_
  obtain ⟨ht4, hf5⟩ := h
  refine e_r_if_eq (tgt := 121) (pc' := 116) dX11_share_113 rfl rfl (fun c => ?_) (fun c => ?_)
  · have h := ht4 c
    refine e_r_iconst (pc' := 122) dX11_share_121 rfl (by decide) ?_
    exact e_r_iret (ty := .int) rfl (e_nI _) dX11_share_122 h
  · have h := hf5 c
    refine e_r_iload (pc' := 118) dX11_share_116 rfl rfl ?_
    refine e_r_goto (pc' := 122) dX11_share_118 rfl ?_
    exact e_r_iret (ty := .int) rfl (e_nI _) dX11_share_122 h
theorem wp_X11_share_57 {X : e_X} {d gn : Nat} {o : e_O} (M : e_M) (p1 p2 p3 : Int) (h : e_G X (d + 1) YX11_share 62 [some (.inr (.inr 64)), some (.inl p1), some (.inl p2), some (.inl p3), none] [.inl 1, .inr (.inr 64)] (557, gn, e_RF, M) o) : e_G X (d + 1) YX11_share 57 [some (.inr (.inr 64)), some (.inl p1), some (.inl p2), some (.inl p3), none] [.inr (.inr 64)] (557, gn, e_RF, M) o := by
  refine e_r_iconst (pc' := 58) dX11_share_57 rfl (by decide) ?_
  refine e_r_goto (pc' := 62) dX11_share_58 rfl ?_
  exact h
theorem wp_X11_youngest_0 {X : e_X} {d gn : Nat} {o : e_O} (M : e_M) (p1 : Int) (hmo : e_mn (557, gn, e_RF, M) o.2) (h : (∃ (r2 : Int) (N1 : e_M), e_E X d YX11_in [.inl p1, .inl 0, .inl 1] (557, gn, e_RF, (e_up M 64 0 0)) (.inl (some (.inl r2)), (557, gn, e_RF, N1)) ∧ ((¬ r2 = 0 → e_G X (d + 1) YX11_youngest 20 [some (.inr (.inr 64)), some (.inl p1), none, none] [.inl 0, .inr (.inr 64)] (557, gn, e_RF, N1) o) ∧ (r2 = 0 → e_G X (d + 1) YX11_youngest 20 [some (.inr (.inr 64)), some (.inl p1), none, none] [.inl 1, .inr (.inr 64)] (557, gn, e_RF, N1) o)))) : e_G X (d + 1) YX11_youngest 0 [some (.inr (.inr 64)), some (.inl p1), none, none] [] (557, gn, e_RF, M) o := by
  refine e_r_aload_n (pc' := 1) (by decide) dX11_youngest_0 rfl rfl rfl ?_
  refine e_r_iconst (pc' := 2) dX11_youngest_1 rfl (by decide) ?_
  refine e_r_puti (k := 0) (pc' := 5) cl_11 rfl (Nat.le_of_ble_eq_true rfl) rfl rfl fl_RX11_97 rfl (by decide +kernel) dX11_youngest_2 rfl ?_
  refine e_r_aload_n (pc' := 6) (by decide) dX11_youngest_5 rfl rfl rfl ?_
  refine e_r_iload_n (pc' := 7) dX11_youngest_6 rfl rfl rfl ?_
  refine e_r_iconst (pc' := 8) dX11_youngest_7 rfl (by decide) ?_
  refine e_r_iconst (pc' := 9) dX11_youngest_8 rfl (by decide) ?_
  obtain ⟨r2, N1, he3, h⟩ := h
  refine e_r_callS (av := [.inl p1, .inl 0, .inl 1]) (st := [.inr (.inr 64)]) mqYX11_in ml_RX11_131 (by simp [e_cat]) rfl rfl rfl dX11_youngest_9 (pc' := 12) rfl he3 ⟨Nat.le_refl _, Nat.le_refl _⟩ hmo ?_
  obtain ⟨ht4, hf5⟩ := h
  refine e_r_if_ne (tgt := 19) (pc' := 15) dX11_youngest_12 rfl rfl (fun c => ?_) (fun c => ?_)
  · have h := ht4 c
    refine e_r_iconst (pc' := 20) dX11_youngest_19 rfl (by decide) ?_
    exact h
  · have h := hf5 c
    refine e_r_iconst (pc' := 16) dX11_youngest_15 rfl (by decide) ?_
    refine e_r_goto (pc' := 20) dX11_youngest_16 rfl ?_
    exact h
theorem wp_X11_youngest_20 {X : e_X} {d gn : Nat} {o : e_O} (M : e_M) (p1 w0 : Int) (hmo : e_mn (557, gn, e_RF, M) o.2) (h : (∃ (r2 : Int) (N1 : e_M), e_E X d YX11_bad [.inr (.inr 64), .inl w0, .inl 1, .inl 1] (557, gn, e_RF, M) (.inl (some (.inl r2)), (557, gn, e_RF, N1)) ∧ ((r2 = 0 → e_G X (d + 1) YX11_youngest 34 [some (.inr (.inr 64)), some (.inl p1), some (.inl (-1)), some (.inl 0)] [] (557, gn, e_RF, N1) o) ∧ (¬ (r2 = 0) → (o = (.inl (some (.inl 0)), (557, gn, e_RF, N1))))))) : e_G X (d + 1) YX11_youngest 20 [some (.inr (.inr 64)), some (.inl p1), none, none] [.inl w0, .inr (.inr 64)] (557, gn, e_RF, M) o := by
  refine e_r_iconst (pc' := 21) dX11_youngest_20 rfl (by decide) ?_
  refine e_r_iconst (pc' := 22) dX11_youngest_21 rfl (by decide) ?_
  obtain ⟨r2, N1, he3, h⟩ := h
  refine e_r_callV (a := 64) (av := [.inl w0, .inl 1, .inl 1]) (st := []) mqYX11_bad ml_RX11_173 cl_11 rfl (Nat.le_of_ble_eq_true rfl) (by simp [e_cat]) rfl rfl rfl dX11_youngest_22 (pc' := 25) rfl he3 ⟨Nat.le_refl _, Nat.le_refl _⟩ hmo ?_
  obtain ⟨ht4, hf5⟩ := h
  refine e_r_if_eq (tgt := 30) (pc' := 28) dX11_youngest_25 rfl rfl (fun c => ?_) (fun c => ?_)
  · have h := ht4 c
    refine e_r_iconst (pc' := 31) dX11_youngest_30 rfl (by decide) ?_
    refine e_r_istore_n (pc' := 32) (loc' := [some (.inr (.inr 64)), some (.inl p1), some (.inl (-1)), none]) dX11_youngest_31 rfl rfl rfl rfl rfl ?_
    refine e_r_iconst (pc' := 33) dX11_youngest_32 rfl (by decide) ?_
    refine e_r_istore_n (pc' := 34) (loc' := [some (.inr (.inr 64)), some (.inl p1), some (.inl (-1)), some (.inl 0)]) dX11_youngest_33 rfl rfl rfl rfl rfl ?_
    exact h
  · have h := hf5 c
    refine e_r_iconst (pc' := 29) dX11_youngest_28 rfl (by decide) ?_
    exact e_r_iret (ty := .int) rfl (e_nI _) dX11_youngest_29 h
theorem wp_X11_youngest_34 {X : e_X} {d gn : Nat} {o : e_O} (M : e_M) (p1 v2 v3 : Int) (h : (((M 68 0) ≤ v3 → ((p1 = 0 → (o = (.inl (some (.inl v2)), (557, gn, e_RF, M)))) ∧ (¬ (p1 = 0) → ((¬ v2 = (-1) → ((0 ≤ (e_w (6 + v2)) ∧ (e_w (6 + v2)) < 56) ∧ (o = (.inl (some (.inl (M 532 (e_w (6 + v2)).toNat))), (557, gn, e_RF, M))))) ∧ (v2 = (-1) → (o = (.inl (some (.inl v2)), (557, gn, e_RF, M)))))))) ∧ (¬ ((M 68 0) ≤ v3) → ((v2 = (-1) → e_G X (d + 1) YX11_youngest 34 [some (.inr (.inr 64)), some (.inl p1), some (.inl v3), some (.inl (e_w (v3 + 1)))] [] (557, gn, e_RF, M) o) ∧ (¬ (v2 = (-1)) → ((0 ≤ (e_w (6 + v3)) ∧ (e_w (6 + v3)) < 56) ∧ ((0 ≤ (e_w (6 + v2)) ∧ (e_w (6 + v2)) < 56) ∧ (((M 532 (e_w (6 + v2)).toNat) ≤ (M 532 (e_w (6 + v3)).toNat) → e_G X (d + 1) YX11_youngest 34 [some (.inr (.inr 64)), some (.inl p1), some (.inl v2), some (.inl (e_w (v3 + 1)))] [] (557, gn, e_RF, M) o) ∧ (¬ ((M 532 (e_w (6 + v2)).toNat) ≤ (M 532 (e_w (6 + v3)).toNat)) → e_G X (d + 1) YX11_youngest 34 [some (.inr (.inr 64)), some (.inl p1), some (.inl v3), some (.inl (e_w (v3 + 1)))] [] (557, gn, e_RF, M) o))))))))) : e_G X (d + 1) YX11_youngest 34 [some (.inr (.inr 64)), some (.inl p1), some (.inl v2), some (.inl v3)] [] (557, gn, e_RF, M) o := by
  refine e_r_iload_n (pc' := 35) dX11_youngest_34 rfl rfl rfl ?_
  refine e_r_aload_n (pc' := 36) (by decide) dX11_youngest_35 rfl rfl rfl ?_
  refine e_r_getr (k := 12) (q := 68) (pc' := 39) cl_11 rfl (Nat.le_of_ble_eq_true rfl) rfl rfl fl_RX11_23 rfl (Nat.le_of_ble_eq_true rfl) dX11_youngest_36 rfl ?_
  refine e_r_iconst (pc' := 40) dX11_youngest_39 rfl (by decide) ?_
  refine e_r_iald (j9 := 0) (pc' := 41) rfl (Nat.le_of_ble_eq_true rfl) (by decide) (by decide) rfl dX11_youngest_40 rfl ?_
  obtain ⟨ht1, hf2⟩ := h
  refine e_r_icmp_ge (tgt := 82) (pc' := 44) dX11_youngest_41 rfl rfl (fun c => ?_) (fun c => ?_)
  · have h := ht1 c
    refine e_r_iload_n (pc' := 83) dX11_youngest_82 rfl rfl rfl ?_
    obtain ⟨ht3, hf4⟩ := h
    refine e_r_if_eq (tgt := 91) (pc' := 86) dX11_youngest_83 rfl rfl (fun c => ?_) (fun c => ?_)
    · have h := ht3 c
      refine e_r_iload_n (pc' := 92) dX11_youngest_91 rfl rfl rfl ?_
      refine e_r_goto (pc' := 104) dX11_youngest_92 rfl ?_
      exact e_r_iret (ty := .int) rfl (e_nI _) dX11_youngest_104 h
    · have h := hf4 c
      refine e_r_iload_n (pc' := 87) dX11_youngest_86 rfl rfl rfl ?_
      refine e_r_iconst (pc' := 88) dX11_youngest_87 rfl (by decide) ?_
      obtain ⟨ht5, hf6⟩ := h
      refine e_r_icmp_ne (tgt := 95) (pc' := 91) dX11_youngest_88 rfl rfl (fun c => ?_) (fun c => ?_)
      · have h := ht5 c
        refine e_r_aload_n (pc' := 96) (by decide) dX11_youngest_95 rfl rfl rfl ?_
        refine e_r_getr (k := 31) (q := 532) (pc' := 99) cl_11 rfl (Nat.le_of_ble_eq_true rfl) rfl rfl fl_RX11_73 rfl (Nat.le_of_ble_eq_true rfl) dX11_youngest_96 rfl ?_
        refine e_r_bipush (pc' := 101) dX11_youngest_99 rfl (by decide) ?_
        refine e_r_iload_n (pc' := 102) dX11_youngest_101 rfl rfl rfl ?_
        refine e_r_iadd (pc' := 103) dX11_youngest_102 rfl ?_
        obtain ⟨hb7, h⟩ := h
        refine e_r_iald (j9 := (e_w (6 + v2)).toNat) (pc' := 104) rfl (Nat.le_of_ble_eq_true rfl) hb7.1 hb7.2 rfl dX11_youngest_103 rfl ?_
        exact e_r_iret (ty := .int) rfl (e_nI _) dX11_youngest_104 h
      · have h := hf6 c
        refine e_r_iload_n (pc' := 92) dX11_youngest_91 rfl rfl rfl ?_
        refine e_r_goto (pc' := 104) dX11_youngest_92 rfl ?_
        exact e_r_iret (ty := .int) rfl (e_nI _) dX11_youngest_104 h
  · have h := hf2 c
    refine e_r_iload_n (pc' := 45) dX11_youngest_44 rfl rfl rfl ?_
    refine e_r_iconst (pc' := 46) dX11_youngest_45 rfl (by decide) ?_
    obtain ⟨ht8, hf9⟩ := h
    refine e_r_icmp_eq (tgt := 70) (pc' := 49) dX11_youngest_46 rfl rfl (fun c => ?_) (fun c => ?_)
    · have h := ht8 c
      refine e_r_iload_n (pc' := 71) dX11_youngest_70 rfl rfl rfl ?_
      refine e_r_goto (pc' := 75) dX11_youngest_71 rfl ?_
      refine e_r_istore_n (pc' := 76) (loc' := [some (.inr (.inr 64)), some (.inl p1), some (.inl v3), some (.inl v3)]) dX11_youngest_75 rfl rfl rfl rfl rfl ?_
      refine e_r_iinc (pc' := 79) (loc' := [some (.inr (.inr 64)), some (.inl p1), some (.inl v3), some (.inl (e_w (v3 + 1)))]) dX11_youngest_76 rfl rfl rfl rfl rfl ?_
      refine e_r_goto (pc' := 34) dX11_youngest_79 rfl ?_
      exact h
    · have h := hf9 c
      refine e_r_aload_n (pc' := 50) (by decide) dX11_youngest_49 rfl rfl rfl ?_
      refine e_r_getr (k := 31) (q := 532) (pc' := 53) cl_11 rfl (Nat.le_of_ble_eq_true rfl) rfl rfl fl_RX11_73 rfl (Nat.le_of_ble_eq_true rfl) dX11_youngest_50 rfl ?_
      refine e_r_bipush (pc' := 55) dX11_youngest_53 rfl (by decide) ?_
      refine e_r_iload_n (pc' := 56) dX11_youngest_55 rfl rfl rfl ?_
      refine e_r_iadd (pc' := 57) dX11_youngest_56 rfl ?_
      obtain ⟨hb10, h⟩ := h
      refine e_r_iald (j9 := (e_w (6 + v3)).toNat) (pc' := 58) rfl (Nat.le_of_ble_eq_true rfl) hb10.1 hb10.2 rfl dX11_youngest_57 rfl ?_
      refine e_r_aload_n (pc' := 59) (by decide) dX11_youngest_58 rfl rfl rfl ?_
      refine e_r_getr (k := 31) (q := 532) (pc' := 62) cl_11 rfl (Nat.le_of_ble_eq_true rfl) rfl rfl fl_RX11_73 rfl (Nat.le_of_ble_eq_true rfl) dX11_youngest_59 rfl ?_
      refine e_r_bipush (pc' := 64) dX11_youngest_62 rfl (by decide) ?_
      refine e_r_iload_n (pc' := 65) dX11_youngest_64 rfl rfl rfl ?_
      refine e_r_iadd (pc' := 66) dX11_youngest_65 rfl ?_
      obtain ⟨hb11, h⟩ := h
      refine e_r_iald (j9 := (e_w (6 + v2)).toNat) (pc' := 67) rfl (Nat.le_of_ble_eq_true rfl) hb11.1 hb11.2 rfl dX11_youngest_66 rfl ?_
      obtain ⟨ht12, hf13⟩ := h
      refine e_r_icmp_ge (tgt := 74) (pc' := 70) dX11_youngest_67 rfl rfl (fun c => ?_) (fun c => ?_)
      · have h := ht12 c
        refine e_r_iload_n (pc' := 75) dX11_youngest_74 rfl rfl rfl ?_
        refine e_r_istore_n (pc' := 76) (loc' := [some (.inr (.inr 64)), some (.inl p1), some (.inl v2), some (.inl v3)]) dX11_youngest_75 rfl rfl rfl rfl rfl ?_
        refine e_r_iinc (pc' := 79) (loc' := [some (.inr (.inr 64)), some (.inl p1), some (.inl v2), some (.inl (e_w (v3 + 1)))]) dX11_youngest_76 rfl rfl rfl rfl rfl ?_
        refine e_r_goto (pc' := 34) dX11_youngest_79 rfl ?_
        exact h
      · have h := hf13 c
        refine e_r_iload_n (pc' := 71) dX11_youngest_70 rfl rfl rfl ?_
        refine e_r_goto (pc' := 75) dX11_youngest_71 rfl ?_
        refine e_r_istore_n (pc' := 76) (loc' := [some (.inr (.inr 64)), some (.inl p1), some (.inl v3), some (.inl v3)]) dX11_youngest_75 rfl rfl rfl rfl rfl ?_
        refine e_r_iinc (pc' := 79) (loc' := [some (.inr (.inr 64)), some (.inl p1), some (.inl v3), some (.inl (e_w (v3 + 1)))]) dX11_youngest_76 rfl rfl rfl rfl rfl ?_
        refine e_r_goto (pc' := 34) dX11_youngest_79 rfl ?_
        exact h
theorem wp_X11_next_0 {X : e_X} {d gn : Nat} {o : e_O} (M : e_M) (p1 p2 : Int) (hmo : e_mn (557, gn, e_RF, M) o.2) (h : (∃ (r2 : Int) (N1 : e_M), e_E X d YX11_isPerson [.inr (.inr 64), .inl p1] (557, gn, e_RF, (e_up M 64 0 0)) (.inl (some (.inl r2)), (557, gn, e_RF, N1)) ∧ ((¬ r2 = 0 → e_G X (d + 1) YX11_next 19 [some (.inr (.inr 64)), some (.inl p1), some (.inl p2), none, none] [.inl 0, .inr (.inr 64)] (557, gn, e_RF, N1) o) ∧ (r2 = 0 → e_G X (d + 1) YX11_next 19 [some (.inr (.inr 64)), some (.inl p1), some (.inl p2), none, none] [.inl 1, .inr (.inr 64)] (557, gn, e_RF, N1) o)))) : e_G X (d + 1) YX11_next 0 [some (.inr (.inr 64)), some (.inl p1), some (.inl p2), none, none] [] (557, gn, e_RF, M) o := by
  refine e_r_aload_n (pc' := 1) (by decide) dX11_next_0 rfl rfl rfl ?_
  refine e_r_iconst (pc' := 2) dX11_next_1 rfl (by decide) ?_
  refine e_r_puti (k := 0) (pc' := 5) cl_11 rfl (Nat.le_of_ble_eq_true rfl) rfl rfl fl_RX11_97 rfl (by decide +kernel) dX11_next_2 rfl ?_
  refine e_r_aload_n (pc' := 6) (by decide) dX11_next_5 rfl rfl rfl ?_
  refine e_r_aload_n (pc' := 7) (by decide) dX11_next_6 rfl rfl rfl ?_
  refine e_r_iload_n (pc' := 8) dX11_next_7 rfl rfl rfl ?_
  obtain ⟨r2, N1, he3, h⟩ := h
  refine e_r_callV (a := 64) (av := [.inl p1]) (st := [.inr (.inr 64)]) mqYX11_isPerson ml_RX11_325 cl_11 rfl (Nat.le_of_ble_eq_true rfl) (by simp [e_cat]) rfl rfl rfl dX11_next_8 (pc' := 11) rfl he3 ⟨Nat.le_refl _, Nat.le_refl _⟩ hmo ?_
  obtain ⟨ht4, hf5⟩ := h
  refine e_r_if_ne (tgt := 18) (pc' := 14) dX11_next_11 rfl rfl (fun c => ?_) (fun c => ?_)
  · have h := ht4 c
    refine e_r_iconst (pc' := 19) dX11_next_18 rfl (by decide) ?_
    exact h
  · have h := hf5 c
    refine e_r_iconst (pc' := 15) dX11_next_14 rfl (by decide) ?_
    refine e_r_goto (pc' := 19) dX11_next_15 rfl ?_
    exact h
theorem wp_X11_next_19 {X : e_X} {d gn : Nat} {o : e_O} (M : e_M) (p1 p2 w0 : Int) (hmo : e_mn (557, gn, e_RF, M) o.2) (h : (∃ (r2 : Int) (N1 : e_M), e_E X d YX11_bad [.inr (.inr 64), .inl w0, .inl 1, .inl 0] (557, gn, e_RF, M) (.inl (some (.inl r2)), (557, gn, e_RF, N1)) ∧ ((¬ r2 = 0 → (o = (.inl (some (.inl 0)), (557, gn, e_RF, N1)))) ∧ (r2 = 0 → (∃ (r7 : Int) (N6 : e_M), e_E X d YX11_in [.inl p2, .inl 0, .inl 1] (557, gn, e_RF, N1) (.inl (some (.inl r7)), (557, gn, e_RF, N6)) ∧ ((¬ r7 = 0 → e_G X (d + 1) YX11_next 42 [some (.inr (.inr 64)), some (.inl p1), some (.inl p2), none, none] [.inl 0, .inr (.inr 64)] (557, gn, e_RF, N6) o) ∧ (r7 = 0 → e_G X (d + 1) YX11_next 42 [some (.inr (.inr 64)), some (.inl p1), some (.inl p2), none, none] [.inl 1, .inr (.inr 64)] (557, gn, e_RF, N6) o))))))) : e_G X (d + 1) YX11_next 19 [some (.inr (.inr 64)), some (.inl p1), some (.inl p2), none, none] [.inl w0, .inr (.inr 64)] (557, gn, e_RF, M) o := by
  refine e_r_iconst (pc' := 20) dX11_next_19 rfl (by decide) ?_
  refine e_r_iconst (pc' := 21) dX11_next_20 rfl (by decide) ?_
  obtain ⟨r2, N1, he3, h⟩ := h
  refine e_r_callV (a := 64) (av := [.inl w0, .inl 1, .inl 0]) (st := []) mqYX11_bad ml_RX11_173 cl_11 rfl (Nat.le_of_ble_eq_true rfl) (by simp [e_cat]) rfl rfl rfl dX11_next_21 (pc' := 24) rfl he3 ⟨Nat.le_refl _, Nat.le_refl _⟩ hmo ?_
  obtain ⟨ht4, hf5⟩ := h
  refine e_r_if_ne (tgt := 50) (pc' := 27) dX11_next_24 rfl rfl (fun c => ?_) (fun c => ?_)
  · have h := ht4 c
    refine e_r_iconst (pc' := 51) dX11_next_50 rfl (by decide) ?_
    exact e_r_iret (ty := .int) rfl (e_nI _) dX11_next_51 h
  · have h := hf5 c
    refine e_r_aload_n (pc' := 28) (by decide) dX11_next_27 rfl rfl rfl ?_
    refine e_r_iload_n (pc' := 29) dX11_next_28 rfl rfl rfl ?_
    refine e_r_iconst (pc' := 30) dX11_next_29 rfl (by decide) ?_
    refine e_r_iconst (pc' := 31) dX11_next_30 rfl (by decide) ?_
    obtain ⟨r7, N6, he8, h⟩ := h
    refine e_r_callS (av := [.inl p2, .inl 0, .inl 1]) (st := [.inr (.inr 64)]) mqYX11_in ml_RX11_131 (by simp [e_cat]) rfl rfl rfl dX11_next_31 (pc' := 34) rfl he8 ⟨Nat.le_refl _, Nat.le_refl _⟩ hmo ?_
    obtain ⟨ht9, hf10⟩ := h
    refine e_r_if_ne (tgt := 41) (pc' := 37) dX11_next_34 rfl rfl (fun c => ?_) (fun c => ?_)
    · have h := ht9 c
      refine e_r_iconst (pc' := 42) dX11_next_41 rfl (by decide) ?_
      exact h
    · have h := hf10 c
      refine e_r_iconst (pc' := 38) dX11_next_37 rfl (by decide) ?_
      refine e_r_goto (pc' := 42) dX11_next_38 rfl ?_
      exact h
theorem wp_X11_next_42 {X : e_X} {d gn : Nat} {o : e_O} (M : e_M) (p1 p2 w0 : Int) (hmo : e_mn (557, gn, e_RF, M) o.2) (h : (∃ (r2 : Int) (N1 : e_M), e_E X d YX11_bad [.inr (.inr 64), .inl w0, .inl 2, .inl 1] (557, gn, e_RF, M) (.inl (some (.inl r2)), (557, gn, e_RF, N1)) ∧ ((r2 = 0 → e_G X (d + 1) YX11_next 57 [some (.inr (.inr 64)), some (.inl p1), some (.inl p2), some (.inl (-1)), some (.inl 0)] [] (557, gn, e_RF, N1) o) ∧ (¬ (r2 = 0) → (o = (.inl (some (.inl 0)), (557, gn, e_RF, N1))))))) : e_G X (d + 1) YX11_next 42 [some (.inr (.inr 64)), some (.inl p1), some (.inl p2), none, none] [.inl w0, .inr (.inr 64)] (557, gn, e_RF, M) o := by
  refine e_r_iconst (pc' := 43) dX11_next_42 rfl (by decide) ?_
  refine e_r_iconst (pc' := 44) dX11_next_43 rfl (by decide) ?_
  obtain ⟨r2, N1, he3, h⟩ := h
  refine e_r_callV (a := 64) (av := [.inl w0, .inl 2, .inl 1]) (st := []) mqYX11_bad ml_RX11_173 cl_11 rfl (Nat.le_of_ble_eq_true rfl) (by simp [e_cat]) rfl rfl rfl dX11_next_44 (pc' := 47) rfl he3 ⟨Nat.le_refl _, Nat.le_refl _⟩ hmo ?_
  obtain ⟨ht4, hf5⟩ := h
  refine e_r_if_eq (tgt := 52) (pc' := 50) dX11_next_47 rfl rfl (fun c => ?_) (fun c => ?_)
  · have h := ht4 c
    refine e_r_iconst (pc' := 53) dX11_next_52 rfl (by decide) ?_
    refine e_r_istore_n (pc' := 54) (loc' := [some (.inr (.inr 64)), some (.inl p1), some (.inl p2), some (.inl (-1)), none]) dX11_next_53 rfl rfl rfl rfl rfl ?_
    refine e_r_iconst (pc' := 55) dX11_next_54 rfl (by decide) ?_
    refine e_r_istore (pc' := 57) (loc' := [some (.inr (.inr 64)), some (.inl p1), some (.inl p2), some (.inl (-1)), some (.inl 0)]) dX11_next_55 rfl rfl rfl rfl ?_
    exact h
  · have h := hf5 c
    refine e_r_iconst (pc' := 51) dX11_next_50 rfl (by decide) ?_
    exact e_r_iret (ty := .int) rfl (e_nI _) dX11_next_51 h
theorem wp_X11_next_57 {X : e_X} {d gn : Nat} {o : e_O} (M : e_M) (p1 p2 v3 v4 : Int) (h : (((M 68 2) ≤ v4 → ((p2 = 0 → (o = (.inl (some (.inl v3)), (557, gn, e_RF, M)))) ∧ (¬ (p2 = 0) → ((¬ v3 = (-1) → ((0 ≤ (e_w (30 + v3)) ∧ (e_w (30 + v3)) < 56) ∧ (o = (.inl (some (.inl (e_w ((M 532 (e_w (30 + v3)).toNat) - (M 532 55))))), (557, gn, e_RF, M))))) ∧ (v3 = (-1) → (o = (.inl (some (.inl v3)), (557, gn, e_RF, M)))))))) ∧ (¬ ((M 68 2) ≤ v4) → ((0 ≤ v4 ∧ v4 < 12) ∧ ((¬ (M (101 + v4.toNat) 0) = p1 → e_G X (d + 1) YX11_next 57 [some (.inr (.inr 64)), some (.inl p1), some (.inl p2), some (.inl v3), some (.inl (e_w (v4 + 1)))] [] (557, gn, e_RF, M) o) ∧ ((M (101 + v4.toNat) 0) = p1 → ((0 ≤ (e_w (42 + v4)) ∧ (e_w (42 + v4)) < 56) ∧ (((M 532 (e_w (42 + v4)).toNat) = 1 → e_G X (d + 1) YX11_next 57 [some (.inr (.inr 64)), some (.inl p1), some (.inl p2), some (.inl v3), some (.inl (e_w (v4 + 1)))] [] (557, gn, e_RF, M) o) ∧ (¬ ((M 532 (e_w (42 + v4)).toNat) = 1) → ((0 ≤ (e_w (30 + v4)) ∧ (e_w (30 + v4)) < 56) ∧ (((M 532 55) ≤ (M 532 (e_w (30 + v4)).toNat) → ((v3 = (-1) → e_G X (d + 1) YX11_next 57 [some (.inr (.inr 64)), some (.inl p1), some (.inl p2), some (.inl v4), some (.inl (e_w (v4 + 1)))] [] (557, gn, e_RF, M) o) ∧ (¬ (v3 = (-1)) → ((0 ≤ (e_w (30 + v4)) ∧ (e_w (30 + v4)) < 56) ∧ ((0 ≤ (e_w (30 + v3)) ∧ (e_w (30 + v3)) < 56) ∧ (((M 532 (e_w (30 + v3)).toNat) ≤ (M 532 (e_w (30 + v4)).toNat) → e_G X (d + 1) YX11_next 57 [some (.inr (.inr 64)), some (.inl p1), some (.inl p2), some (.inl v3), some (.inl (e_w (v4 + 1)))] [] (557, gn, e_RF, M) o) ∧ (¬ ((M 532 (e_w (30 + v3)).toNat) ≤ (M 532 (e_w (30 + v4)).toNat)) → e_G X (d + 1) YX11_next 57 [some (.inr (.inr 64)), some (.inl p1), some (.inl p2), some (.inl v4), some (.inl (e_w (v4 + 1)))] [] (557, gn, e_RF, M) o))))))) ∧ (¬ ((M 532 55) ≤ (M 532 (e_w (30 + v4)).toNat)) → e_G X (d + 1) YX11_next 57 [some (.inr (.inr 64)), some (.inl p1), some (.inl p2), some (.inl v3), some (.inl (e_w (v4 + 1)))] [] (557, gn, e_RF, M) o)))))))))))) : e_G X (d + 1) YX11_next 57 [some (.inr (.inr 64)), some (.inl p1), some (.inl p2), some (.inl v3), some (.inl v4)] [] (557, gn, e_RF, M) o := by
  refine e_r_iload (pc' := 59) dX11_next_57 rfl rfl ?_
  refine e_r_aload_n (pc' := 60) (by decide) dX11_next_59 rfl rfl rfl ?_
  refine e_r_getr (k := 12) (q := 68) (pc' := 63) cl_11 rfl (Nat.le_of_ble_eq_true rfl) rfl rfl fl_RX11_23 rfl (Nat.le_of_ble_eq_true rfl) dX11_next_60 rfl ?_
  refine e_r_iconst (pc' := 64) dX11_next_63 rfl (by decide) ?_
  refine e_r_iald (j9 := 2) (pc' := 65) rfl (Nat.le_of_ble_eq_true rfl) (by decide) (by decide) rfl dX11_next_64 rfl ?_
  obtain ⟨ht1, hf2⟩ := h
  refine e_r_icmp_ge (tgt := 158) (pc' := 68) dX11_next_65 rfl rfl (fun c => ?_) (fun c => ?_)
  · have h := ht1 c
    refine e_r_iload_n (pc' := 159) dX11_next_158 rfl rfl rfl ?_
    obtain ⟨ht3, hf4⟩ := h
    refine e_r_if_eq (tgt := 167) (pc' := 162) dX11_next_159 rfl rfl (fun c => ?_) (fun c => ?_)
    · have h := ht3 c
      refine e_r_iload_n (pc' := 168) dX11_next_167 rfl rfl rfl ?_
      refine e_r_goto (pc' := 188) dX11_next_168 rfl ?_
      exact e_r_iret (ty := .int) rfl (e_nI _) dX11_next_188 h
    · have h := hf4 c
      refine e_r_iload_n (pc' := 163) dX11_next_162 rfl rfl rfl ?_
      refine e_r_iconst (pc' := 164) dX11_next_163 rfl (by decide) ?_
      obtain ⟨ht5, hf6⟩ := h
      refine e_r_icmp_ne (tgt := 171) (pc' := 167) dX11_next_164 rfl rfl (fun c => ?_) (fun c => ?_)
      · have h := ht5 c
        refine e_r_aload_n (pc' := 172) (by decide) dX11_next_171 rfl rfl rfl ?_
        refine e_r_getr (k := 31) (q := 532) (pc' := 175) cl_11 rfl (Nat.le_of_ble_eq_true rfl) rfl rfl fl_RX11_73 rfl (Nat.le_of_ble_eq_true rfl) dX11_next_172 rfl ?_
        refine e_r_bipush (pc' := 177) dX11_next_175 rfl (by decide) ?_
        refine e_r_iload_n (pc' := 178) dX11_next_177 rfl rfl rfl ?_
        refine e_r_iadd (pc' := 179) dX11_next_178 rfl ?_
        obtain ⟨hb7, h⟩ := h
        refine e_r_iald (j9 := (e_w (30 + v3)).toNat) (pc' := 180) rfl (Nat.le_of_ble_eq_true rfl) hb7.1 hb7.2 rfl dX11_next_179 rfl ?_
        refine e_r_aload_n (pc' := 181) (by decide) dX11_next_180 rfl rfl rfl ?_
        refine e_r_getr (k := 31) (q := 532) (pc' := 184) cl_11 rfl (Nat.le_of_ble_eq_true rfl) rfl rfl fl_RX11_73 rfl (Nat.le_of_ble_eq_true rfl) dX11_next_181 rfl ?_
        refine e_r_bipush (pc' := 186) dX11_next_184 rfl (by decide) ?_
        refine e_r_iald (j9 := 55) (pc' := 187) rfl (Nat.le_of_ble_eq_true rfl) (by decide) (by decide) rfl dX11_next_186 rfl ?_
        refine e_r_isub (pc' := 188) dX11_next_187 rfl ?_
        exact e_r_iret (ty := .int) rfl (e_nI _) dX11_next_188 h
      · have h := hf6 c
        refine e_r_iload_n (pc' := 168) dX11_next_167 rfl rfl rfl ?_
        refine e_r_goto (pc' := 188) dX11_next_168 rfl ?_
        exact e_r_iret (ty := .int) rfl (e_nI _) dX11_next_188 h
  · have h := hf2 c
    refine e_r_aload_n (pc' := 69) (by decide) dX11_next_68 rfl rfl rfl ?_
    refine e_r_getr (k := 20) (q := 100) (pc' := 72) cl_11 rfl (Nat.le_of_ble_eq_true rfl) rfl rfl fl_RX11_49 rfl (Nat.le_of_ble_eq_true rfl) dX11_next_69 rfl ?_
    refine e_r_iload (pc' := 74) dX11_next_72 rfl rfl ?_
    obtain ⟨hb8, h⟩ := h
    refine e_r_aldr (q := (101 + v4.toNat)) (pc' := 75) rfl (Nat.le_of_ble_eq_true rfl) hb8.1 hb8.2 rfl (sh_100 hb8.1 hb8.2).2.1 dX11_next_74 rfl ?_
    refine e_r_iconst (pc' := 76) dX11_next_75 rfl (by decide) ?_
    refine e_r_iald (j9 := 0) (pc' := 77) (sh_100 hb8.1 hb8.2).1 (sh_100 hb8.1 hb8.2).2.1 (by decide) (by decide) rfl dX11_next_76 rfl ?_
    refine e_r_iload_n (pc' := 78) dX11_next_77 rfl rfl rfl ?_
    obtain ⟨ht9, hf10⟩ := h
    refine e_r_icmp_ne (tgt := 152) (pc' := 81) dX11_next_78 rfl rfl (fun c => ?_) (fun c => ?_)
    · have h := ht9 c
      refine e_r_iinc (pc' := 155) (loc' := [some (.inr (.inr 64)), some (.inl p1), some (.inl p2), some (.inl v3), some (.inl (e_w (v4 + 1)))]) dX11_next_152 rfl rfl rfl rfl rfl ?_
      refine e_r_goto (pc' := 57) dX11_next_155 rfl ?_
      exact h
    · have h := hf10 c
      refine e_r_aload_n (pc' := 82) (by decide) dX11_next_81 rfl rfl rfl ?_
      refine e_r_getr (k := 31) (q := 532) (pc' := 85) cl_11 rfl (Nat.le_of_ble_eq_true rfl) rfl rfl fl_RX11_73 rfl (Nat.le_of_ble_eq_true rfl) dX11_next_82 rfl ?_
      refine e_r_bipush (pc' := 87) dX11_next_85 rfl (by decide) ?_
      refine e_r_iload (pc' := 89) dX11_next_87 rfl rfl ?_
      refine e_r_iadd (pc' := 90) dX11_next_89 rfl ?_
      obtain ⟨hb11, h⟩ := h
      refine e_r_iald (j9 := (e_w (42 + v4)).toNat) (pc' := 91) rfl (Nat.le_of_ble_eq_true rfl) hb11.1 hb11.2 rfl dX11_next_90 rfl ?_
      refine e_r_iconst (pc' := 92) dX11_next_91 rfl (by decide) ?_
      obtain ⟨ht12, hf13⟩ := h
      refine e_r_icmp_eq (tgt := 152) (pc' := 95) dX11_next_92 rfl rfl (fun c => ?_) (fun c => ?_)
      · have h := ht12 c
        refine e_r_iinc (pc' := 155) (loc' := [some (.inr (.inr 64)), some (.inl p1), some (.inl p2), some (.inl v3), some (.inl (e_w (v4 + 1)))]) dX11_next_152 rfl rfl rfl rfl rfl ?_
        refine e_r_goto (pc' := 57) dX11_next_155 rfl ?_
        exact h
      · have h := hf13 c
        refine e_r_aload_n (pc' := 96) (by decide) dX11_next_95 rfl rfl rfl ?_
        refine e_r_getr (k := 31) (q := 532) (pc' := 99) cl_11 rfl (Nat.le_of_ble_eq_true rfl) rfl rfl fl_RX11_73 rfl (Nat.le_of_ble_eq_true rfl) dX11_next_96 rfl ?_
        refine e_r_bipush (pc' := 101) dX11_next_99 rfl (by decide) ?_
        refine e_r_iload (pc' := 103) dX11_next_101 rfl rfl ?_
        refine e_r_iadd (pc' := 104) dX11_next_103 rfl ?_
        obtain ⟨hb14, h⟩ := h
        refine e_r_iald (j9 := (e_w (30 + v4)).toNat) (pc' := 105) rfl (Nat.le_of_ble_eq_true rfl) hb14.1 hb14.2 rfl dX11_next_104 rfl ?_
        refine e_r_aload_n (pc' := 106) (by decide) dX11_next_105 rfl rfl rfl ?_
        refine e_r_getr (k := 31) (q := 532) (pc' := 109) cl_11 rfl (Nat.le_of_ble_eq_true rfl) rfl rfl fl_RX11_73 rfl (Nat.le_of_ble_eq_true rfl) dX11_next_106 rfl ?_
        refine e_r_bipush (pc' := 111) dX11_next_109 rfl (by decide) ?_
        refine e_r_iald (j9 := 55) (pc' := 112) rfl (Nat.le_of_ble_eq_true rfl) (by decide) (by decide) rfl dX11_next_111 rfl ?_
        obtain ⟨ht15, hf16⟩ := h
        refine e_r_icmp_ge (tgt := 118) (pc' := 115) dX11_next_112 rfl rfl (fun c => ?_) (fun c => ?_)
        · have h := ht15 c
          refine e_r_iload_n (pc' := 119) dX11_next_118 rfl rfl rfl ?_
          refine e_r_iconst (pc' := 120) dX11_next_119 rfl (by decide) ?_
          obtain ⟨ht17, hf18⟩ := h
          refine e_r_icmp_eq (tgt := 145) (pc' := 123) dX11_next_120 rfl rfl (fun c => ?_) (fun c => ?_)
          · have h := ht17 c
            refine e_r_iload (pc' := 147) dX11_next_145 rfl rfl ?_
            refine e_r_goto (pc' := 151) dX11_next_147 rfl ?_
            refine e_r_istore_n (pc' := 152) (loc' := [some (.inr (.inr 64)), some (.inl p1), some (.inl p2), some (.inl v4), some (.inl v4)]) dX11_next_151 rfl rfl rfl rfl rfl ?_
            refine e_r_iinc (pc' := 155) (loc' := [some (.inr (.inr 64)), some (.inl p1), some (.inl p2), some (.inl v4), some (.inl (e_w (v4 + 1)))]) dX11_next_152 rfl rfl rfl rfl rfl ?_
            refine e_r_goto (pc' := 57) dX11_next_155 rfl ?_
            exact h
          · have h := hf18 c
            refine e_r_aload_n (pc' := 124) (by decide) dX11_next_123 rfl rfl rfl ?_
            refine e_r_getr (k := 31) (q := 532) (pc' := 127) cl_11 rfl (Nat.le_of_ble_eq_true rfl) rfl rfl fl_RX11_73 rfl (Nat.le_of_ble_eq_true rfl) dX11_next_124 rfl ?_
            refine e_r_bipush (pc' := 129) dX11_next_127 rfl (by decide) ?_
            refine e_r_iload (pc' := 131) dX11_next_129 rfl rfl ?_
            refine e_r_iadd (pc' := 132) dX11_next_131 rfl ?_
            obtain ⟨hb19, h⟩ := h
            refine e_r_iald (j9 := (e_w (30 + v4)).toNat) (pc' := 133) rfl (Nat.le_of_ble_eq_true rfl) hb19.1 hb19.2 rfl dX11_next_132 rfl ?_
            refine e_r_aload_n (pc' := 134) (by decide) dX11_next_133 rfl rfl rfl ?_
            refine e_r_getr (k := 31) (q := 532) (pc' := 137) cl_11 rfl (Nat.le_of_ble_eq_true rfl) rfl rfl fl_RX11_73 rfl (Nat.le_of_ble_eq_true rfl) dX11_next_134 rfl ?_
            refine e_r_bipush (pc' := 139) dX11_next_137 rfl (by decide) ?_
            refine e_r_iload_n (pc' := 140) dX11_next_139 rfl rfl rfl ?_
            refine e_r_iadd (pc' := 141) dX11_next_140 rfl ?_
            obtain ⟨hb20, h⟩ := h
            refine e_r_iald (j9 := (e_w (30 + v3)).toNat) (pc' := 142) rfl (Nat.le_of_ble_eq_true rfl) hb20.1 hb20.2 rfl dX11_next_141 rfl ?_
            obtain ⟨ht21, hf22⟩ := h
            refine e_r_icmp_ge (tgt := 150) (pc' := 145) dX11_next_142 rfl rfl (fun c => ?_) (fun c => ?_)
            · have h := ht21 c
              refine e_r_iload_n (pc' := 151) dX11_next_150 rfl rfl rfl ?_
              refine e_r_istore_n (pc' := 152) (loc' := [some (.inr (.inr 64)), some (.inl p1), some (.inl p2), some (.inl v3), some (.inl v4)]) dX11_next_151 rfl rfl rfl rfl rfl ?_
              refine e_r_iinc (pc' := 155) (loc' := [some (.inr (.inr 64)), some (.inl p1), some (.inl p2), some (.inl v3), some (.inl (e_w (v4 + 1)))]) dX11_next_152 rfl rfl rfl rfl rfl ?_
              refine e_r_goto (pc' := 57) dX11_next_155 rfl ?_
              exact h
            · have h := hf22 c
              refine e_r_iload (pc' := 147) dX11_next_145 rfl rfl ?_
              refine e_r_goto (pc' := 151) dX11_next_147 rfl ?_
              refine e_r_istore_n (pc' := 152) (loc' := [some (.inr (.inr 64)), some (.inl p1), some (.inl p2), some (.inl v4), some (.inl v4)]) dX11_next_151 rfl rfl rfl rfl rfl ?_
              refine e_r_iinc (pc' := 155) (loc' := [some (.inr (.inr 64)), some (.inl p1), some (.inl p2), some (.inl v4), some (.inl (e_w (v4 + 1)))]) dX11_next_152 rfl rfl rfl rfl rfl ?_
              refine e_r_goto (pc' := 57) dX11_next_155 rfl ?_
              exact h
        · have h := hf16 c
          refine e_r_goto (pc' := 152) dX11_next_115 rfl ?_
          refine e_r_iinc (pc' := 155) (loc' := [some (.inr (.inr 64)), some (.inl p1), some (.inl p2), some (.inl v3), some (.inl (e_w (v4 + 1)))]) dX11_next_152 rfl rfl rfl rfl rfl ?_
          refine e_r_goto (pc' := 57) dX11_next_155 rfl ?_
          exact h
theorem wp_X11_lone_0 {X : e_X} {d gn : Nat} {o : e_O} (M : e_M) (h : e_G X (d + 1) YX11_lone 9 [some (.inr (.inr 64)), some (.inl 0), some (.inl 0), none, none] [] (557, gn, e_RF, (e_up M 64 0 0)) o) : e_G X (d + 1) YX11_lone 0 [some (.inr (.inr 64)), none, none, none, none] [] (557, gn, e_RF, M) o := by
  refine e_r_aload_n (pc' := 1) (by decide) dX11_lone_0 rfl rfl rfl ?_
  refine e_r_iconst (pc' := 2) dX11_lone_1 rfl (by decide) ?_
  refine e_r_puti (k := 0) (pc' := 5) cl_11 rfl (Nat.le_of_ble_eq_true rfl) rfl rfl fl_RX11_97 rfl (by decide +kernel) dX11_lone_2 rfl ?_
  refine e_r_iconst (pc' := 6) dX11_lone_5 rfl (by decide) ?_
  refine e_r_istore_n (pc' := 7) (loc' := [some (.inr (.inr 64)), some (.inl 0), none, none, none]) dX11_lone_6 rfl rfl rfl rfl rfl ?_
  refine e_r_iconst (pc' := 8) dX11_lone_7 rfl (by decide) ?_
  refine e_r_istore_n (pc' := 9) (loc' := [some (.inr (.inr 64)), some (.inl 0), some (.inl 0), none, none]) dX11_lone_8 rfl rfl rfl rfl rfl ?_
  exact h
theorem wp_X11_lone_9 {X : e_X} {d gn : Nat} {o : e_O} (M : e_M) (v1 v2 : Int) (h : (((M 68 1) ≤ v2 → (o = (.inl (some (.inl v1)), (557, gn, e_RF, M)))) ∧ (¬ ((M 68 1) ≤ v2) → e_G X (d + 1) YX11_lone 24 [some (.inr (.inr 64)), some (.inl v1), some (.inl v2), some (.inl 0), some (.inl 0)] [] (557, gn, e_RF, M) o))) : e_G X (d + 1) YX11_lone 9 [some (.inr (.inr 64)), some (.inl v1), some (.inl v2), none, none] [] (557, gn, e_RF, M) o := by
  refine e_r_iload_n (pc' := 10) dX11_lone_9 rfl rfl rfl ?_
  refine e_r_aload_n (pc' := 11) (by decide) dX11_lone_10 rfl rfl rfl ?_
  refine e_r_getr (k := 12) (q := 68) (pc' := 14) cl_11 rfl (Nat.le_of_ble_eq_true rfl) rfl rfl fl_RX11_23 rfl (Nat.le_of_ble_eq_true rfl) dX11_lone_11 rfl ?_
  refine e_r_iconst (pc' := 15) dX11_lone_14 rfl (by decide) ?_
  refine e_r_iald (j9 := 1) (pc' := 16) rfl (Nat.le_of_ble_eq_true rfl) (by decide) (by decide) rfl dX11_lone_15 rfl ?_
  obtain ⟨ht1, hf2⟩ := h
  refine e_r_icmp_ge (tgt := 84) (pc' := 19) dX11_lone_16 rfl rfl (fun c => ?_) (fun c => ?_)
  · have h := ht1 c
    refine e_r_iload_n (pc' := 85) dX11_lone_84 rfl rfl rfl ?_
    exact e_r_iret (ty := .int) rfl (e_nI _) dX11_lone_85 h
  · have h := hf2 c
    refine e_r_iconst (pc' := 20) dX11_lone_19 rfl (by decide) ?_
    refine e_r_istore_n (pc' := 21) (loc' := [some (.inr (.inr 64)), some (.inl v1), some (.inl v2), some (.inl 0), none]) dX11_lone_20 rfl rfl rfl rfl rfl ?_
    refine e_r_iconst (pc' := 22) dX11_lone_21 rfl (by decide) ?_
    refine e_r_istore (pc' := 24) (loc' := [some (.inr (.inr 64)), some (.inl v1), some (.inl v2), some (.inl 0), some (.inl 0)]) dX11_lone_22 rfl rfl rfl rfl ?_
    exact h
theorem wp_X11_lone_24 {X : e_X} {d gn : Nat} {o : e_O} (M : e_M) (v1 v2 v3 v4 : Int) (hmo : e_mn (557, gn, e_RF, M) o.2) (h : (((M 68 0) ≤ v4 → ((¬ v3 = 1 → e_G X (d + 1) YX11_lone 9 [some (.inr (.inr 64)), some (.inl (e_or v1 0)), some (.inl (e_w (v2 + 1))), none, none] [] (557, gn, e_RF, M) o) ∧ (v3 = 1 → e_G X (d + 1) YX11_lone 9 [some (.inr (.inr 64)), some (.inl (e_or v1 (e_shl 1 v2))), some (.inl (e_w (v2 + 1))), none, none] [] (557, gn, e_RF, M) o))) ∧ (¬ ((M 68 0) ≤ v4) → ((0 ≤ v4 ∧ v4 < 6) ∧ (∃ (r7 : Int) (N6 : e_M), e_E X d YX11_has [.inl (M 72 v4.toNat), .inl v2] (557, gn, e_RF, M) (.inl (some (.inl r7)), (557, gn, e_RF, N6)) ∧ ((r7 = 0 → e_G X (d + 1) YX11_lone 24 [some (.inr (.inr 64)), some (.inl v1), some (.inl v2), some (.inl (e_w (v3 + 0))), some (.inl (e_w (v4 + 1)))] [] (557, gn, e_RF, N6) o) ∧ (¬ (r7 = 0) → e_G X (d + 1) YX11_lone 24 [some (.inr (.inr 64)), some (.inl v1), some (.inl v2), some (.inl (e_w (v3 + 1))), some (.inl (e_w (v4 + 1)))] [] (557, gn, e_RF, N6) o))))))) : e_G X (d + 1) YX11_lone 24 [some (.inr (.inr 64)), some (.inl v1), some (.inl v2), some (.inl v3), some (.inl v4)] [] (557, gn, e_RF, M) o := by
  refine e_r_iload (pc' := 26) dX11_lone_24 rfl rfl ?_
  refine e_r_aload_n (pc' := 27) (by decide) dX11_lone_26 rfl rfl rfl ?_
  refine e_r_getr (k := 12) (q := 68) (pc' := 30) cl_11 rfl (Nat.le_of_ble_eq_true rfl) rfl rfl fl_RX11_23 rfl (Nat.le_of_ble_eq_true rfl) dX11_lone_27 rfl ?_
  refine e_r_iconst (pc' := 31) dX11_lone_30 rfl (by decide) ?_
  refine e_r_iald (j9 := 0) (pc' := 32) rfl (Nat.le_of_ble_eq_true rfl) (by decide) (by decide) rfl dX11_lone_31 rfl ?_
  obtain ⟨ht1, hf2⟩ := h
  refine e_r_icmp_ge (tgt := 63) (pc' := 35) dX11_lone_32 rfl rfl (fun c => ?_) (fun c => ?_)
  · have h := ht1 c
    refine e_r_iload_n (pc' := 64) dX11_lone_63 rfl rfl rfl ?_
    refine e_r_iload_n (pc' := 65) dX11_lone_64 rfl rfl rfl ?_
    refine e_r_iconst (pc' := 66) dX11_lone_65 rfl (by decide) ?_
    obtain ⟨ht3, hf4⟩ := h
    refine e_r_icmp_ne (tgt := 75) (pc' := 69) dX11_lone_66 rfl rfl (fun c => ?_) (fun c => ?_)
    · have h := ht3 c
      refine e_r_iconst (pc' := 76) dX11_lone_75 rfl (by decide) ?_
      refine e_r_ior (pc' := 77) dX11_lone_76 rfl ?_
      refine e_r_istore_n (pc' := 78) (loc' := [some (.inr (.inr 64)), some (.inl (e_or v1 0)), some (.inl v2), some (.inl v3), some (.inl v4)]) dX11_lone_77 rfl rfl rfl rfl rfl ?_
      refine e_r_iinc (pc' := 81) (loc' := [some (.inr (.inr 64)), some (.inl (e_or v1 0)), some (.inl (e_w (v2 + 1))), some (.inl v3), some (.inl v4)]) dX11_lone_78 rfl rfl rfl rfl rfl ?_
      refine e_r_goto (pc' := 9) dX11_lone_81 rfl ?_
      exact e_forget (m := [true, true, true, false, false]) h rfl
    · have h := hf4 c
      refine e_r_iconst (pc' := 70) dX11_lone_69 rfl (by decide) ?_
      refine e_r_iload_n (pc' := 71) dX11_lone_70 rfl rfl rfl ?_
      refine e_r_ishl (pc' := 72) dX11_lone_71 rfl ?_
      refine e_r_goto (pc' := 76) dX11_lone_72 rfl ?_
      refine e_r_ior (pc' := 77) dX11_lone_76 rfl ?_
      refine e_r_istore_n (pc' := 78) (loc' := [some (.inr (.inr 64)), some (.inl (e_or v1 (e_shl 1 v2))), some (.inl v2), some (.inl v3), some (.inl v4)]) dX11_lone_77 rfl rfl rfl rfl rfl ?_
      refine e_r_iinc (pc' := 81) (loc' := [some (.inr (.inr 64)), some (.inl (e_or v1 (e_shl 1 v2))), some (.inl (e_w (v2 + 1))), some (.inl v3), some (.inl v4)]) dX11_lone_78 rfl rfl rfl rfl rfl ?_
      refine e_r_goto (pc' := 9) dX11_lone_81 rfl ?_
      exact e_forget (m := [true, true, true, false, false]) h rfl
  · have h := hf2 c
    refine e_r_iload_n (pc' := 36) dX11_lone_35 rfl rfl rfl ?_
    refine e_r_aload_n (pc' := 37) (by decide) dX11_lone_36 rfl rfl rfl ?_
    refine e_r_getr (k := 16) (q := 72) (pc' := 40) cl_11 rfl (Nat.le_of_ble_eq_true rfl) rfl rfl fl_RX11_35 rfl (Nat.le_of_ble_eq_true rfl) dX11_lone_37 rfl ?_
    refine e_r_iload (pc' := 42) dX11_lone_40 rfl rfl ?_
    obtain ⟨hb5, h⟩ := h
    refine e_r_iald (j9 := v4.toNat) (pc' := 43) rfl (Nat.le_of_ble_eq_true rfl) hb5.1 hb5.2 rfl dX11_lone_42 rfl ?_
    refine e_r_iload_n (pc' := 44) dX11_lone_43 rfl rfl rfl ?_
    obtain ⟨r7, N6, he8, h⟩ := h
    refine e_r_callS (av := [.inl (M 72 v4.toNat), .inl v2]) (st := [.inl v3]) mqYX11_has ml_RX11_255 (by simp [e_cat]) rfl rfl rfl dX11_lone_44 (pc' := 47) rfl he8 ⟨Nat.le_refl _, Nat.le_refl _⟩ hmo ?_
    obtain ⟨ht9, hf10⟩ := h
    refine e_r_if_eq (tgt := 54) (pc' := 50) dX11_lone_47 rfl rfl (fun c => ?_) (fun c => ?_)
    · have h := ht9 c
      refine e_r_iconst (pc' := 55) dX11_lone_54 rfl (by decide) ?_
      refine e_r_iadd (pc' := 56) dX11_lone_55 rfl ?_
      refine e_r_istore_n (pc' := 57) (loc' := [some (.inr (.inr 64)), some (.inl v1), some (.inl v2), some (.inl (e_w (v3 + 0))), some (.inl v4)]) dX11_lone_56 rfl rfl rfl rfl rfl ?_
      refine e_r_iinc (pc' := 60) (loc' := [some (.inr (.inr 64)), some (.inl v1), some (.inl v2), some (.inl (e_w (v3 + 0))), some (.inl (e_w (v4 + 1)))]) dX11_lone_57 rfl rfl rfl rfl rfl ?_
      refine e_r_goto (pc' := 24) dX11_lone_60 rfl ?_
      exact h
    · have h := hf10 c
      refine e_r_iconst (pc' := 51) dX11_lone_50 rfl (by decide) ?_
      refine e_r_goto (pc' := 55) dX11_lone_51 rfl ?_
      refine e_r_iadd (pc' := 56) dX11_lone_55 rfl ?_
      refine e_r_istore_n (pc' := 57) (loc' := [some (.inr (.inr 64)), some (.inl v1), some (.inl v2), some (.inl (e_w (v3 + 1))), some (.inl v4)]) dX11_lone_56 rfl rfl rfl rfl rfl ?_
      refine e_r_iinc (pc' := 60) (loc' := [some (.inr (.inr 64)), some (.inl v1), some (.inl v2), some (.inl (e_w (v3 + 1))), some (.inl (e_w (v4 + 1)))]) dX11_lone_57 rfl rfl rfl rfl rfl ?_
      refine e_r_goto (pc' := 24) dX11_lone_60 rfl ?_
      exact h
theorem wp_X11_debt_0 {X : e_X} {d gn : Nat} {o : e_O} (M : e_M) (p1 : Int) (hmo : e_mn (557, gn, e_RF, M) o.2) (h : (∃ (r2 : Int) (N1 : e_M), e_E X d YX11_isPerson [.inr (.inr 64), .inl p1] (557, gn, e_RF, (e_up M 64 0 0)) (.inl (some (.inl r2)), (557, gn, e_RF, N1)) ∧ ((¬ r2 = 0 → e_G X (d + 1) YX11_debt 19 [some (.inr (.inr 64)), some (.inl p1), none, none] [.inl 0, .inr (.inr 64)] (557, gn, e_RF, N1) o) ∧ (r2 = 0 → e_G X (d + 1) YX11_debt 19 [some (.inr (.inr 64)), some (.inl p1), none, none] [.inl 1, .inr (.inr 64)] (557, gn, e_RF, N1) o)))) : e_G X (d + 1) YX11_debt 0 [some (.inr (.inr 64)), some (.inl p1), none, none] [] (557, gn, e_RF, M) o := by
  refine e_r_aload_n (pc' := 1) (by decide) dX11_debt_0 rfl rfl rfl ?_
  refine e_r_iconst (pc' := 2) dX11_debt_1 rfl (by decide) ?_
  refine e_r_puti (k := 0) (pc' := 5) cl_11 rfl (Nat.le_of_ble_eq_true rfl) rfl rfl fl_RX11_97 rfl (by decide +kernel) dX11_debt_2 rfl ?_
  refine e_r_aload_n (pc' := 6) (by decide) dX11_debt_5 rfl rfl rfl ?_
  refine e_r_aload_n (pc' := 7) (by decide) dX11_debt_6 rfl rfl rfl ?_
  refine e_r_iload_n (pc' := 8) dX11_debt_7 rfl rfl rfl ?_
  obtain ⟨r2, N1, he3, h⟩ := h
  refine e_r_callV (a := 64) (av := [.inl p1]) (st := [.inr (.inr 64)]) mqYX11_isPerson ml_RX11_325 cl_11 rfl (Nat.le_of_ble_eq_true rfl) (by simp [e_cat]) rfl rfl rfl dX11_debt_8 (pc' := 11) rfl he3 ⟨Nat.le_refl _, Nat.le_refl _⟩ hmo ?_
  obtain ⟨ht4, hf5⟩ := h
  refine e_r_if_ne (tgt := 18) (pc' := 14) dX11_debt_11 rfl rfl (fun c => ?_) (fun c => ?_)
  · have h := ht4 c
    refine e_r_iconst (pc' := 19) dX11_debt_18 rfl (by decide) ?_
    exact h
  · have h := hf5 c
    refine e_r_iconst (pc' := 15) dX11_debt_14 rfl (by decide) ?_
    refine e_r_goto (pc' := 19) dX11_debt_15 rfl ?_
    exact h
theorem wp_X11_debt_19 {X : e_X} {d gn : Nat} {o : e_O} (M : e_M) (p1 w0 : Int) (hmo : e_mn (557, gn, e_RF, M) o.2) (h : (∃ (r2 : Int) (N1 : e_M), e_E X d YX11_bad [.inr (.inr 64), .inl w0, .inl 1, .inl 0] (557, gn, e_RF, M) (.inl (some (.inl r2)), (557, gn, e_RF, N1)) ∧ ((r2 = 0 → e_G X (d + 1) YX11_debt 33 [some (.inr (.inr 64)), some (.inl p1), some (.inl 0), some (.inl 0)] [] (557, gn, e_RF, N1) o) ∧ (¬ (r2 = 0) → (o = (.inl (some (.inl 0)), (557, gn, e_RF, N1))))))) : e_G X (d + 1) YX11_debt 19 [some (.inr (.inr 64)), some (.inl p1), none, none] [.inl w0, .inr (.inr 64)] (557, gn, e_RF, M) o := by
  refine e_r_iconst (pc' := 20) dX11_debt_19 rfl (by decide) ?_
  refine e_r_iconst (pc' := 21) dX11_debt_20 rfl (by decide) ?_
  obtain ⟨r2, N1, he3, h⟩ := h
  refine e_r_callV (a := 64) (av := [.inl w0, .inl 1, .inl 0]) (st := []) mqYX11_bad ml_RX11_173 cl_11 rfl (Nat.le_of_ble_eq_true rfl) (by simp [e_cat]) rfl rfl rfl dX11_debt_21 (pc' := 24) rfl he3 ⟨Nat.le_refl _, Nat.le_refl _⟩ hmo ?_
  obtain ⟨ht4, hf5⟩ := h
  refine e_r_if_eq (tgt := 29) (pc' := 27) dX11_debt_24 rfl rfl (fun c => ?_) (fun c => ?_)
  · have h := ht4 c
    refine e_r_iconst (pc' := 30) dX11_debt_29 rfl (by decide) ?_
    refine e_r_istore_n (pc' := 31) (loc' := [some (.inr (.inr 64)), some (.inl p1), some (.inl 0), none]) dX11_debt_30 rfl rfl rfl rfl rfl ?_
    refine e_r_iconst (pc' := 32) dX11_debt_31 rfl (by decide) ?_
    refine e_r_istore_n (pc' := 33) (loc' := [some (.inr (.inr 64)), some (.inl p1), some (.inl 0), some (.inl 0)]) dX11_debt_32 rfl rfl rfl rfl rfl ?_
    exact h
  · have h := hf5 c
    refine e_r_iconst (pc' := 28) dX11_debt_27 rfl (by decide) ?_
    exact e_r_iret (ty := .int) rfl (e_nI _) dX11_debt_28 h
theorem wp_X11_debt_33 {X : e_X} {d gn : Nat} {o : e_O} (M : e_M) (p1 v2 v3 : Int) (h : (((M 68 2) ≤ v3 → (o = (.inl (some (.inl v2)), (557, gn, e_RF, M)))) ∧ (¬ ((M 68 2) ≤ v3) → ((0 ≤ v3 ∧ v3 < 12) ∧ ((¬ (M (101 + v3.toNat) 0) = p1 → e_G X (d + 1) YX11_debt 33 [some (.inr (.inr 64)), some (.inl p1), some (.inl (e_w (v2 + 0))), some (.inl (e_w (v3 + 1)))] [] (557, gn, e_RF, M) o) ∧ ((M (101 + v3.toNat) 0) = p1 → ((0 ≤ (e_w (42 + v3)) ∧ (e_w (42 + v3)) < 56) ∧ ((¬ (M 532 (e_w (42 + v3)).toNat) = 0 → e_G X (d + 1) YX11_debt 33 [some (.inr (.inr 64)), some (.inl p1), some (.inl (e_w (v2 + 0))), some (.inl (e_w (v3 + 1)))] [] (557, gn, e_RF, M) o) ∧ ((M 532 (e_w (42 + v3)).toNat) = 0 → ((0 ≤ (e_w (30 + v3)) ∧ (e_w (30 + v3)) < 56) ∧ (((M 532 (e_w (30 + v3)).toNat) < (M 532 55) → e_G X (d + 1) YX11_debt 33 [some (.inr (.inr 64)), some (.inl p1), some (.inl (e_w (v2 + 0))), some (.inl (e_w (v3 + 1)))] [] (557, gn, e_RF, M) o) ∧ (¬ ((M 532 (e_w (30 + v3)).toNat) < (M 532 55)) → ((0 ≤ v3 ∧ v3 < 12) ∧ e_G X (d + 1) YX11_debt 33 [some (.inr (.inr 64)), some (.inl p1), some (.inl (e_w (v2 + (M (101 + v3.toNat) 2)))), some (.inl (e_w (v3 + 1)))] [] (557, gn, e_RF, M) o))))))))))))) : e_G X (d + 1) YX11_debt 33 [some (.inr (.inr 64)), some (.inl p1), some (.inl v2), some (.inl v3)] [] (557, gn, e_RF, M) o := by
  refine e_r_iload_n (pc' := 34) dX11_debt_33 rfl rfl rfl ?_
  refine e_r_aload_n (pc' := 35) (by decide) dX11_debt_34 rfl rfl rfl ?_
  refine e_r_getr (k := 12) (q := 68) (pc' := 38) cl_11 rfl (Nat.le_of_ble_eq_true rfl) rfl rfl fl_RX11_23 rfl (Nat.le_of_ble_eq_true rfl) dX11_debt_35 rfl ?_
  refine e_r_iconst (pc' := 39) dX11_debt_38 rfl (by decide) ?_
  refine e_r_iald (j9 := 2) (pc' := 40) rfl (Nat.le_of_ble_eq_true rfl) (by decide) (by decide) rfl dX11_debt_39 rfl ?_
  obtain ⟨ht1, hf2⟩ := h
  refine e_r_icmp_ge (tgt := 107) (pc' := 43) dX11_debt_40 rfl rfl (fun c => ?_) (fun c => ?_)
  · have h := ht1 c
    refine e_r_iload_n (pc' := 108) dX11_debt_107 rfl rfl rfl ?_
    exact e_r_iret (ty := .int) rfl (e_nI _) dX11_debt_108 h
  · have h := hf2 c
    refine e_r_iload_n (pc' := 44) dX11_debt_43 rfl rfl rfl ?_
    refine e_r_aload_n (pc' := 45) (by decide) dX11_debt_44 rfl rfl rfl ?_
    refine e_r_getr (k := 20) (q := 100) (pc' := 48) cl_11 rfl (Nat.le_of_ble_eq_true rfl) rfl rfl fl_RX11_49 rfl (Nat.le_of_ble_eq_true rfl) dX11_debt_45 rfl ?_
    refine e_r_iload_n (pc' := 49) dX11_debt_48 rfl rfl rfl ?_
    obtain ⟨hb3, h⟩ := h
    refine e_r_aldr (q := (101 + v3.toNat)) (pc' := 50) rfl (Nat.le_of_ble_eq_true rfl) hb3.1 hb3.2 rfl (sh_100 hb3.1 hb3.2).2.1 dX11_debt_49 rfl ?_
    refine e_r_iconst (pc' := 51) dX11_debt_50 rfl (by decide) ?_
    refine e_r_iald (j9 := 0) (pc' := 52) (sh_100 hb3.1 hb3.2).1 (sh_100 hb3.1 hb3.2).2.1 (by decide) (by decide) rfl dX11_debt_51 rfl ?_
    refine e_r_iload_n (pc' := 53) dX11_debt_52 rfl rfl rfl ?_
    obtain ⟨ht4, hf5⟩ := h
    refine e_r_icmp_ne (tgt := 98) (pc' := 56) dX11_debt_53 rfl rfl (fun c => ?_) (fun c => ?_)
    · have h := ht4 c
      refine e_r_iconst (pc' := 99) dX11_debt_98 rfl (by decide) ?_
      refine e_r_iadd (pc' := 100) dX11_debt_99 rfl ?_
      refine e_r_istore_n (pc' := 101) (loc' := [some (.inr (.inr 64)), some (.inl p1), some (.inl (e_w (v2 + 0))), some (.inl v3)]) dX11_debt_100 rfl rfl rfl rfl rfl ?_
      refine e_r_iinc (pc' := 104) (loc' := [some (.inr (.inr 64)), some (.inl p1), some (.inl (e_w (v2 + 0))), some (.inl (e_w (v3 + 1)))]) dX11_debt_101 rfl rfl rfl rfl rfl ?_
      refine e_r_goto (pc' := 33) dX11_debt_104 rfl ?_
      exact h
    · have h := hf5 c
      refine e_r_aload_n (pc' := 57) (by decide) dX11_debt_56 rfl rfl rfl ?_
      refine e_r_getr (k := 31) (q := 532) (pc' := 60) cl_11 rfl (Nat.le_of_ble_eq_true rfl) rfl rfl fl_RX11_73 rfl (Nat.le_of_ble_eq_true rfl) dX11_debt_57 rfl ?_
      refine e_r_bipush (pc' := 62) dX11_debt_60 rfl (by decide) ?_
      refine e_r_iload_n (pc' := 63) dX11_debt_62 rfl rfl rfl ?_
      refine e_r_iadd (pc' := 64) dX11_debt_63 rfl ?_
      obtain ⟨hb6, h⟩ := h
      refine e_r_iald (j9 := (e_w (42 + v3)).toNat) (pc' := 65) rfl (Nat.le_of_ble_eq_true rfl) hb6.1 hb6.2 rfl dX11_debt_64 rfl ?_
      obtain ⟨ht7, hf8⟩ := h
      refine e_r_if_ne (tgt := 98) (pc' := 68) dX11_debt_65 rfl rfl (fun c => ?_) (fun c => ?_)
      · have h := ht7 c
        refine e_r_iconst (pc' := 99) dX11_debt_98 rfl (by decide) ?_
        refine e_r_iadd (pc' := 100) dX11_debt_99 rfl ?_
        refine e_r_istore_n (pc' := 101) (loc' := [some (.inr (.inr 64)), some (.inl p1), some (.inl (e_w (v2 + 0))), some (.inl v3)]) dX11_debt_100 rfl rfl rfl rfl rfl ?_
        refine e_r_iinc (pc' := 104) (loc' := [some (.inr (.inr 64)), some (.inl p1), some (.inl (e_w (v2 + 0))), some (.inl (e_w (v3 + 1)))]) dX11_debt_101 rfl rfl rfl rfl rfl ?_
        refine e_r_goto (pc' := 33) dX11_debt_104 rfl ?_
        exact h
      · have h := hf8 c
        refine e_r_aload_n (pc' := 69) (by decide) dX11_debt_68 rfl rfl rfl ?_
        refine e_r_getr (k := 31) (q := 532) (pc' := 72) cl_11 rfl (Nat.le_of_ble_eq_true rfl) rfl rfl fl_RX11_73 rfl (Nat.le_of_ble_eq_true rfl) dX11_debt_69 rfl ?_
        refine e_r_bipush (pc' := 74) dX11_debt_72 rfl (by decide) ?_
        refine e_r_iload_n (pc' := 75) dX11_debt_74 rfl rfl rfl ?_
        refine e_r_iadd (pc' := 76) dX11_debt_75 rfl ?_
        obtain ⟨hb9, h⟩ := h
        refine e_r_iald (j9 := (e_w (30 + v3)).toNat) (pc' := 77) rfl (Nat.le_of_ble_eq_true rfl) hb9.1 hb9.2 rfl dX11_debt_76 rfl ?_
        refine e_r_aload_n (pc' := 78) (by decide) dX11_debt_77 rfl rfl rfl ?_
        refine e_r_getr (k := 31) (q := 532) (pc' := 81) cl_11 rfl (Nat.le_of_ble_eq_true rfl) rfl rfl fl_RX11_73 rfl (Nat.le_of_ble_eq_true rfl) dX11_debt_78 rfl ?_
        refine e_r_bipush (pc' := 83) dX11_debt_81 rfl (by decide) ?_
        refine e_r_iald (j9 := 55) (pc' := 84) rfl (Nat.le_of_ble_eq_true rfl) (by decide) (by decide) rfl dX11_debt_83 rfl ?_
        obtain ⟨ht10, hf11⟩ := h
        refine e_r_icmp_lt (tgt := 98) (pc' := 87) dX11_debt_84 rfl rfl (fun c => ?_) (fun c => ?_)
        · have h := ht10 c
          refine e_r_iconst (pc' := 99) dX11_debt_98 rfl (by decide) ?_
          refine e_r_iadd (pc' := 100) dX11_debt_99 rfl ?_
          refine e_r_istore_n (pc' := 101) (loc' := [some (.inr (.inr 64)), some (.inl p1), some (.inl (e_w (v2 + 0))), some (.inl v3)]) dX11_debt_100 rfl rfl rfl rfl rfl ?_
          refine e_r_iinc (pc' := 104) (loc' := [some (.inr (.inr 64)), some (.inl p1), some (.inl (e_w (v2 + 0))), some (.inl (e_w (v3 + 1)))]) dX11_debt_101 rfl rfl rfl rfl rfl ?_
          refine e_r_goto (pc' := 33) dX11_debt_104 rfl ?_
          exact h
        · have h := hf11 c
          refine e_r_aload_n (pc' := 88) (by decide) dX11_debt_87 rfl rfl rfl ?_
          refine e_r_getr (k := 20) (q := 100) (pc' := 91) cl_11 rfl (Nat.le_of_ble_eq_true rfl) rfl rfl fl_RX11_49 rfl (Nat.le_of_ble_eq_true rfl) dX11_debt_88 rfl ?_
          refine e_r_iload_n (pc' := 92) dX11_debt_91 rfl rfl rfl ?_
          obtain ⟨hb12, h⟩ := h
          refine e_r_aldr (q := (101 + v3.toNat)) (pc' := 93) rfl (Nat.le_of_ble_eq_true rfl) hb12.1 hb12.2 rfl (sh_100 hb12.1 hb12.2).2.1 dX11_debt_92 rfl ?_
          refine e_r_iconst (pc' := 94) dX11_debt_93 rfl (by decide) ?_
          refine e_r_iald (j9 := 2) (pc' := 95) (sh_100 hb12.1 hb12.2).1 (sh_100 hb12.1 hb12.2).2.1 (by decide) (by decide) rfl dX11_debt_94 rfl ?_
          refine e_r_goto (pc' := 99) dX11_debt_95 rfl ?_
          refine e_r_iadd (pc' := 100) dX11_debt_99 rfl ?_
          refine e_r_istore_n (pc' := 101) (loc' := [some (.inr (.inr 64)), some (.inl p1), some (.inl (e_w (v2 + (M (101 + v3.toNat) 2)))), some (.inl v3)]) dX11_debt_100 rfl rfl rfl rfl rfl ?_
          refine e_r_iinc (pc' := 104) (loc' := [some (.inr (.inr 64)), some (.inl p1), some (.inl (e_w (v2 + (M (101 + v3.toNat) 2)))), some (.inl (e_w (v3 + 1)))]) dX11_debt_101 rfl rfl rfl rfl rfl ?_
          refine e_r_goto (pc' := 33) dX11_debt_104 rfl ?_
          exact h
theorem wp_X11_spare_0 {X : e_X} {d gn : Nat} {o : e_O} (M : e_M) (p1 p2 : Int) (hmo : e_mn (557, gn, e_RF, M) o.2) (h : (∃ (r2 : Int) (N1 : e_M), e_E X d YX11_isPerson [.inr (.inr 64), .inl p1] (557, gn, e_RF, (e_up M 64 0 0)) (.inl (some (.inl r2)), (557, gn, e_RF, N1)) ∧ ((¬ r2 = 0 → e_G X (d + 1) YX11_spare 19 [some (.inr (.inr 64)), some (.inl p1), some (.inl p2), none, none] [.inl 0, .inr (.inr 64)] (557, gn, e_RF, N1) o) ∧ (r2 = 0 → e_G X (d + 1) YX11_spare 19 [some (.inr (.inr 64)), some (.inl p1), some (.inl p2), none, none] [.inl 1, .inr (.inr 64)] (557, gn, e_RF, N1) o)))) : e_G X (d + 1) YX11_spare 0 [some (.inr (.inr 64)), some (.inl p1), some (.inl p2), none, none] [] (557, gn, e_RF, M) o := by
  refine e_r_aload_n (pc' := 1) (by decide) dX11_spare_0 rfl rfl rfl ?_
  refine e_r_iconst (pc' := 2) dX11_spare_1 rfl (by decide) ?_
  refine e_r_puti (k := 0) (pc' := 5) cl_11 rfl (Nat.le_of_ble_eq_true rfl) rfl rfl fl_RX11_97 rfl (by decide +kernel) dX11_spare_2 rfl ?_
  refine e_r_aload_n (pc' := 6) (by decide) dX11_spare_5 rfl rfl rfl ?_
  refine e_r_aload_n (pc' := 7) (by decide) dX11_spare_6 rfl rfl rfl ?_
  refine e_r_iload_n (pc' := 8) dX11_spare_7 rfl rfl rfl ?_
  obtain ⟨r2, N1, he3, h⟩ := h
  refine e_r_callV (a := 64) (av := [.inl p1]) (st := [.inr (.inr 64)]) mqYX11_isPerson ml_RX11_325 cl_11 rfl (Nat.le_of_ble_eq_true rfl) (by simp [e_cat]) rfl rfl rfl dX11_spare_8 (pc' := 11) rfl he3 ⟨Nat.le_refl _, Nat.le_refl _⟩ hmo ?_
  obtain ⟨ht4, hf5⟩ := h
  refine e_r_if_ne (tgt := 18) (pc' := 14) dX11_spare_11 rfl rfl (fun c => ?_) (fun c => ?_)
  · have h := ht4 c
    refine e_r_iconst (pc' := 19) dX11_spare_18 rfl (by decide) ?_
    exact h
  · have h := hf5 c
    refine e_r_iconst (pc' := 15) dX11_spare_14 rfl (by decide) ?_
    refine e_r_goto (pc' := 19) dX11_spare_15 rfl ?_
    exact h
theorem wp_X11_spare_19 {X : e_X} {d gn : Nat} {o : e_O} (M : e_M) (p1 p2 w0 : Int) (hmo : e_mn (557, gn, e_RF, M) o.2) (h : (∃ (r2 : Int) (N1 : e_M), e_E X d YX11_bad [.inr (.inr 64), .inl w0, .inl 1, .inl 0] (557, gn, e_RF, M) (.inl (some (.inl r2)), (557, gn, e_RF, N1)) ∧ ((¬ r2 = 0 → (o = (.inl (some (.inl 0)), (557, gn, e_RF, N1)))) ∧ (r2 = 0 → (∃ (r7 : Int) (N6 : e_M), e_E X d YX11_in [.inl p2, .inl 0, .inl 99] (557, gn, e_RF, N1) (.inl (some (.inl r7)), (557, gn, e_RF, N6)) ∧ ((¬ r7 = 0 → e_G X (d + 1) YX11_spare 43 [some (.inr (.inr 64)), some (.inl p1), some (.inl p2), none, none] [.inl 0, .inr (.inr 64)] (557, gn, e_RF, N6) o) ∧ (r7 = 0 → e_G X (d + 1) YX11_spare 43 [some (.inr (.inr 64)), some (.inl p1), some (.inl p2), none, none] [.inl 1, .inr (.inr 64)] (557, gn, e_RF, N6) o))))))) : e_G X (d + 1) YX11_spare 19 [some (.inr (.inr 64)), some (.inl p1), some (.inl p2), none, none] [.inl w0, .inr (.inr 64)] (557, gn, e_RF, M) o := by
  refine e_r_iconst (pc' := 20) dX11_spare_19 rfl (by decide) ?_
  refine e_r_iconst (pc' := 21) dX11_spare_20 rfl (by decide) ?_
  obtain ⟨r2, N1, he3, h⟩ := h
  refine e_r_callV (a := 64) (av := [.inl w0, .inl 1, .inl 0]) (st := []) mqYX11_bad ml_RX11_173 cl_11 rfl (Nat.le_of_ble_eq_true rfl) (by simp [e_cat]) rfl rfl rfl dX11_spare_21 (pc' := 24) rfl he3 ⟨Nat.le_refl _, Nat.le_refl _⟩ hmo ?_
  obtain ⟨ht4, hf5⟩ := h
  refine e_r_if_ne (tgt := 51) (pc' := 27) dX11_spare_24 rfl rfl (fun c => ?_) (fun c => ?_)
  · have h := ht4 c
    refine e_r_iconst (pc' := 52) dX11_spare_51 rfl (by decide) ?_
    exact e_r_iret (ty := .int) rfl (e_nI _) dX11_spare_52 h
  · have h := hf5 c
    refine e_r_aload_n (pc' := 28) (by decide) dX11_spare_27 rfl rfl rfl ?_
    refine e_r_iload_n (pc' := 29) dX11_spare_28 rfl rfl rfl ?_
    refine e_r_iconst (pc' := 30) dX11_spare_29 rfl (by decide) ?_
    refine e_r_bipush (pc' := 32) dX11_spare_30 rfl (by decide) ?_
    obtain ⟨r7, N6, he8, h⟩ := h
    refine e_r_callS (av := [.inl p2, .inl 0, .inl 99]) (st := [.inr (.inr 64)]) mqYX11_in ml_RX11_131 (by simp [e_cat]) rfl rfl rfl dX11_spare_32 (pc' := 35) rfl he8 ⟨Nat.le_refl _, Nat.le_refl _⟩ hmo ?_
    obtain ⟨ht9, hf10⟩ := h
    refine e_r_if_ne (tgt := 42) (pc' := 38) dX11_spare_35 rfl rfl (fun c => ?_) (fun c => ?_)
    · have h := ht9 c
      refine e_r_iconst (pc' := 43) dX11_spare_42 rfl (by decide) ?_
      exact h
    · have h := hf10 c
      refine e_r_iconst (pc' := 39) dX11_spare_38 rfl (by decide) ?_
      refine e_r_goto (pc' := 43) dX11_spare_39 rfl ?_
      exact h
theorem wp_X11_spare_43 {X : e_X} {d gn : Nat} {o : e_O} (M : e_M) (p1 p2 w0 : Int) (hmo : e_mn (557, gn, e_RF, M) o.2) (h : (∃ (r2 : Int) (N1 : e_M), e_E X d YX11_bad [.inr (.inr 64), .inl w0, .inl 2, .inl 1] (557, gn, e_RF, M) (.inl (some (.inl r2)), (557, gn, e_RF, N1)) ∧ ((r2 = 0 → ((0 ≤ (e_w (0 + p1)) ∧ (e_w (0 + p1)) < 56) ∧ e_G X (d + 1) YX11_spare 65 [some (.inr (.inr 64)), some (.inl p1), some (.inl p2), some (.inl (N1 532 (e_w (0 + p1)).toNat)), some (.inl 0)] [] (557, gn, e_RF, N1) o)) ∧ (¬ (r2 = 0) → (o = (.inl (some (.inl 0)), (557, gn, e_RF, N1))))))) : e_G X (d + 1) YX11_spare 43 [some (.inr (.inr 64)), some (.inl p1), some (.inl p2), none, none] [.inl w0, .inr (.inr 64)] (557, gn, e_RF, M) o := by
  refine e_r_iconst (pc' := 44) dX11_spare_43 rfl (by decide) ?_
  refine e_r_iconst (pc' := 45) dX11_spare_44 rfl (by decide) ?_
  obtain ⟨r2, N1, he3, h⟩ := h
  refine e_r_callV (a := 64) (av := [.inl w0, .inl 2, .inl 1]) (st := []) mqYX11_bad ml_RX11_173 cl_11 rfl (Nat.le_of_ble_eq_true rfl) (by simp [e_cat]) rfl rfl rfl dX11_spare_45 (pc' := 48) rfl he3 ⟨Nat.le_refl _, Nat.le_refl _⟩ hmo ?_
  obtain ⟨ht4, hf5⟩ := h
  refine e_r_if_eq (tgt := 53) (pc' := 51) dX11_spare_48 rfl rfl (fun c => ?_) (fun c => ?_)
  · have h := ht4 c
    refine e_r_aload_n (pc' := 54) (by decide) dX11_spare_53 rfl rfl rfl ?_
    refine e_r_getr (k := 31) (q := 532) (pc' := 57) cl_11 rfl (Nat.le_of_ble_eq_true rfl) rfl rfl fl_RX11_73 rfl (Nat.le_of_ble_eq_true rfl) dX11_spare_54 rfl ?_
    refine e_r_iconst (pc' := 58) dX11_spare_57 rfl (by decide) ?_
    refine e_r_iload_n (pc' := 59) dX11_spare_58 rfl rfl rfl ?_
    refine e_r_iadd (pc' := 60) dX11_spare_59 rfl ?_
    obtain ⟨hb6, h⟩ := h
    refine e_r_iald (j9 := (e_w (0 + p1)).toNat) (pc' := 61) rfl (Nat.le_of_ble_eq_true rfl) hb6.1 hb6.2 rfl dX11_spare_60 rfl ?_
    refine e_r_istore_n (pc' := 62) (loc' := [some (.inr (.inr 64)), some (.inl p1), some (.inl p2), some (.inl (N1 532 (e_w (0 + p1)).toNat)), none]) dX11_spare_61 rfl rfl rfl rfl rfl ?_
    refine e_r_iconst (pc' := 63) dX11_spare_62 rfl (by decide) ?_
    refine e_r_istore (pc' := 65) (loc' := [some (.inr (.inr 64)), some (.inl p1), some (.inl p2), some (.inl (N1 532 (e_w (0 + p1)).toNat)), some (.inl 0)]) dX11_spare_63 rfl rfl rfl rfl ?_
    exact h
  · have h := hf5 c
    refine e_r_iconst (pc' := 52) dX11_spare_51 rfl (by decide) ?_
    exact e_r_iret (ty := .int) rfl (e_nI _) dX11_spare_52 h
theorem wp_X11_spare_65 {X : e_X} {d gn : Nat} {o : e_O} (M : e_M) (p1 p2 v3 v4 : Int) (hmo : e_mn (557, gn, e_RF, M) o.2) (h : ((p2 ≤ v4 → (o = (.inl (some (.inl v3)), (557, gn, e_RF, M)))) ∧ (¬ (p2 ≤ v4) → ((0 ≤ p1 ∧ p1 < 6) ∧ (∃ (r5 : Int) (N4 : e_M), e_E X d YX11_less [.inl 999, .inl (e_w (v3 + (M (81 + p1.toNat) 1)))] (557, gn, e_RF, M) (.inl (some (.inl r5)), (557, gn, e_RF, N4)) ∧ e_G X (d + 1) YX11_spare 65 [some (.inr (.inr 64)), some (.inl p1), some (.inl p2), some (.inl r5), some (.inl (e_w (v4 + 1)))] [] (557, gn, e_RF, N4) o))))) : e_G X (d + 1) YX11_spare 65 [some (.inr (.inr 64)), some (.inl p1), some (.inl p2), some (.inl v3), some (.inl v4)] [] (557, gn, e_RF, M) o := by
  refine e_r_iload (pc' := 67) dX11_spare_65 rfl rfl ?_
  refine e_r_iload_n (pc' := 68) dX11_spare_67 rfl rfl rfl ?_
  obtain ⟨ht1, hf2⟩ := h
  refine e_r_icmp_ge (tgt := 94) (pc' := 71) dX11_spare_68 rfl rfl (fun c => ?_) (fun c => ?_)
  · have h := ht1 c
    refine e_r_iload_n (pc' := 95) dX11_spare_94 rfl rfl rfl ?_
    exact e_r_iret (ty := .int) rfl (e_nI _) dX11_spare_95 h
  · have h := hf2 c
    refine e_r_sipush (pc' := 74) dX11_spare_71 rfl (by decide) ?_
    refine e_r_iload_n (pc' := 75) dX11_spare_74 rfl rfl rfl ?_
    refine e_r_aload_n (pc' := 76) (by decide) dX11_spare_75 rfl rfl rfl ?_
    refine e_r_getr (k := 18) (q := 80) (pc' := 79) cl_11 rfl (Nat.le_of_ble_eq_true rfl) rfl rfl fl_RX11_43 rfl (Nat.le_of_ble_eq_true rfl) dX11_spare_76 rfl ?_
    refine e_r_iload_n (pc' := 80) dX11_spare_79 rfl rfl rfl ?_
    obtain ⟨hb3, h⟩ := h
    refine e_r_aldr (q := (81 + p1.toNat)) (pc' := 81) rfl (Nat.le_of_ble_eq_true rfl) hb3.1 hb3.2 rfl (sh_80 hb3.1 hb3.2).2.1 dX11_spare_80 rfl ?_
    refine e_r_iconst (pc' := 82) dX11_spare_81 rfl (by decide) ?_
    refine e_r_iald (j9 := 1) (pc' := 83) (sh_80 hb3.1 hb3.2).1 (sh_80 hb3.1 hb3.2).2.1 (by decide) (by decide) rfl dX11_spare_82 rfl ?_
    refine e_r_iadd (pc' := 84) dX11_spare_83 rfl ?_
    obtain ⟨r5, N4, he6, h⟩ := h
    refine e_r_callS (av := [.inl 999, .inl (e_w (v3 + (M (81 + p1.toNat) 1)))]) (st := []) mqYX11_less ml_RX11_237 (by simp [e_cat]) rfl rfl rfl dX11_spare_84 (pc' := 87) rfl he6 ⟨Nat.le_refl _, Nat.le_refl _⟩ hmo ?_
    refine e_r_istore_n (pc' := 88) (loc' := [some (.inr (.inr 64)), some (.inl p1), some (.inl p2), some (.inl r5), some (.inl v4)]) dX11_spare_87 rfl rfl rfl rfl rfl ?_
    refine e_r_iinc (pc' := 91) (loc' := [some (.inr (.inr 64)), some (.inl p1), some (.inl p2), some (.inl r5), some (.inl (e_w (v4 + 1)))]) dX11_spare_88 rfl rfl rfl rfl rfl ?_
    refine e_r_goto (pc' := 65) dX11_spare_91 rfl ?_
    exact h
theorem wp_X11_cheapest_0 {X : e_X} {d gn : Nat} {o : e_O} (M : e_M) (p1 : Int) (hmo : e_mn (557, gn, e_RF, M) o.2) (h : (∃ (r2 : Int) (N1 : e_M), e_E X d YX11_in [.inl p1, .inl 0, .inl 1] (557, gn, e_RF, (e_up M 64 0 0)) (.inl (some (.inl r2)), (557, gn, e_RF, N1)) ∧ ((¬ r2 = 0 → e_G X (d + 1) YX11_cheapest 20 [some (.inr (.inr 64)), some (.inl p1), none, none, none, none] [.inl 0, .inr (.inr 64)] (557, gn, e_RF, N1) o) ∧ (r2 = 0 → e_G X (d + 1) YX11_cheapest 20 [some (.inr (.inr 64)), some (.inl p1), none, none, none, none] [.inl 1, .inr (.inr 64)] (557, gn, e_RF, N1) o)))) : e_G X (d + 1) YX11_cheapest 0 [some (.inr (.inr 64)), some (.inl p1), none, none, none, none] [] (557, gn, e_RF, M) o := by
  refine e_r_aload_n (pc' := 1) (by decide) dX11_cheapest_0 rfl rfl rfl ?_
  refine e_r_iconst (pc' := 2) dX11_cheapest_1 rfl (by decide) ?_
  refine e_r_puti (k := 0) (pc' := 5) cl_11 rfl (Nat.le_of_ble_eq_true rfl) rfl rfl fl_RX11_97 rfl (by decide +kernel) dX11_cheapest_2 rfl ?_
  refine e_r_aload_n (pc' := 6) (by decide) dX11_cheapest_5 rfl rfl rfl ?_
  refine e_r_iload_n (pc' := 7) dX11_cheapest_6 rfl rfl rfl ?_
  refine e_r_iconst (pc' := 8) dX11_cheapest_7 rfl (by decide) ?_
  refine e_r_iconst (pc' := 9) dX11_cheapest_8 rfl (by decide) ?_
  obtain ⟨r2, N1, he3, h⟩ := h
  refine e_r_callS (av := [.inl p1, .inl 0, .inl 1]) (st := [.inr (.inr 64)]) mqYX11_in ml_RX11_131 (by simp [e_cat]) rfl rfl rfl dX11_cheapest_9 (pc' := 12) rfl he3 ⟨Nat.le_refl _, Nat.le_refl _⟩ hmo ?_
  obtain ⟨ht4, hf5⟩ := h
  refine e_r_if_ne (tgt := 19) (pc' := 15) dX11_cheapest_12 rfl rfl (fun c => ?_) (fun c => ?_)
  · have h := ht4 c
    refine e_r_iconst (pc' := 20) dX11_cheapest_19 rfl (by decide) ?_
    exact h
  · have h := hf5 c
    refine e_r_iconst (pc' := 16) dX11_cheapest_15 rfl (by decide) ?_
    refine e_r_goto (pc' := 20) dX11_cheapest_16 rfl ?_
    exact h
theorem wp_X11_cheapest_20 {X : e_X} {d gn : Nat} {o : e_O} (M : e_M) (p1 w0 : Int) (hmo : e_mn (557, gn, e_RF, M) o.2) (h : (∃ (r2 : Int) (N1 : e_M), e_E X d YX11_bad [.inr (.inr 64), .inl w0, .inl 1, .inl 1] (557, gn, e_RF, M) (.inl (some (.inl r2)), (557, gn, e_RF, N1)) ∧ ((r2 = 0 → e_G X (d + 1) YX11_cheapest 37 [some (.inr (.inr 64)), some (.inl p1), some (.inl (-1)), some (.inl (-1)), some (.inl 0), none] [] (557, gn, e_RF, N1) o) ∧ (¬ (r2 = 0) → (o = (.inl (some (.inl 0)), (557, gn, e_RF, N1))))))) : e_G X (d + 1) YX11_cheapest 20 [some (.inr (.inr 64)), some (.inl p1), none, none, none, none] [.inl w0, .inr (.inr 64)] (557, gn, e_RF, M) o := by
  refine e_r_iconst (pc' := 21) dX11_cheapest_20 rfl (by decide) ?_
  refine e_r_iconst (pc' := 22) dX11_cheapest_21 rfl (by decide) ?_
  obtain ⟨r2, N1, he3, h⟩ := h
  refine e_r_callV (a := 64) (av := [.inl w0, .inl 1, .inl 1]) (st := []) mqYX11_bad ml_RX11_173 cl_11 rfl (Nat.le_of_ble_eq_true rfl) (by simp [e_cat]) rfl rfl rfl dX11_cheapest_22 (pc' := 25) rfl he3 ⟨Nat.le_refl _, Nat.le_refl _⟩ hmo ?_
  obtain ⟨ht4, hf5⟩ := h
  refine e_r_if_eq (tgt := 30) (pc' := 28) dX11_cheapest_25 rfl rfl (fun c => ?_) (fun c => ?_)
  · have h := ht4 c
    refine e_r_iconst (pc' := 31) dX11_cheapest_30 rfl (by decide) ?_
    refine e_r_istore_n (pc' := 32) (loc' := [some (.inr (.inr 64)), some (.inl p1), some (.inl (-1)), none, none, none]) dX11_cheapest_31 rfl rfl rfl rfl rfl ?_
    refine e_r_iconst (pc' := 33) dX11_cheapest_32 rfl (by decide) ?_
    refine e_r_istore_n (pc' := 34) (loc' := [some (.inr (.inr 64)), some (.inl p1), some (.inl (-1)), some (.inl (-1)), none, none]) dX11_cheapest_33 rfl rfl rfl rfl rfl ?_
    refine e_r_iconst (pc' := 35) dX11_cheapest_34 rfl (by decide) ?_
    refine e_r_istore (pc' := 37) (loc' := [some (.inr (.inr 64)), some (.inl p1), some (.inl (-1)), some (.inl (-1)), some (.inl 0), none]) dX11_cheapest_35 rfl rfl rfl rfl ?_
    exact h
  · have h := hf5 c
    refine e_r_iconst (pc' := 29) dX11_cheapest_28 rfl (by decide) ?_
    exact e_r_iret (ty := .int) rfl (e_nI _) dX11_cheapest_29 h
theorem wp_X11_cheapest_37 {X : e_X} {d gn : Nat} {o : e_O} (M : e_M) (p1 v2 v3 v4 : Int) (hmo : e_mn (557, gn, e_RF, M) o.2) (h : (((M 68 0) ≤ v4 → ((¬ p1 = 0 → (o = (.inl (some (.inl v3)), (557, gn, e_RF, M)))) ∧ (p1 = 0 → (o = (.inl (some (.inl v2)), (557, gn, e_RF, M)))))) ∧ (¬ ((M 68 0) ≤ v4) → (∃ (r6 : Int) (N5 : e_M), e_E X d YX11_priceOf [.inr (.inr 64), .inr (.inr 532), .inl v4] (557, gn, e_RF, M) (.inl (some (.inl r6)), (557, gn, e_RF, N5)) ∧ (∃ (r9 : Int) (N8 : e_M), e_E X d YX11_isSold [.inr (.inr 532), .inl v4] (557, gn, e_RF, N5) (.inl (some (.inl r9)), (557, gn, e_RF, N8)) ∧ ((¬ r9 = 0 → e_G X (d + 1) YX11_cheapest 37 [some (.inr (.inr 64)), some (.inl p1), some (.inl v2), some (.inl v3), some (.inl (e_w (v4 + 1))), none] [] (557, gn, e_RF, N8) o) ∧ (r9 = 0 → ((v2 = (-1) → e_G X (d + 1) YX11_cheapest 37 [some (.inr (.inr 64)), some (.inl p1), some (.inl v4), some (.inl r6), some (.inl (e_w (v4 + 1))), none] [] (557, gn, e_RF, N8) o) ∧ (¬ (v2 = (-1)) → ((r6 < v3 → e_G X (d + 1) YX11_cheapest 37 [some (.inr (.inr 64)), some (.inl p1), some (.inl v4), some (.inl r6), some (.inl (e_w (v4 + 1))), none] [] (557, gn, e_RF, N8) o) ∧ (¬ (r6 < v3) → e_G X (d + 1) YX11_cheapest 37 [some (.inr (.inr 64)), some (.inl p1), some (.inl v2), some (.inl v3), some (.inl (e_w (v4 + 1))), none] [] (557, gn, e_RF, N8) o))))))))))) : e_G X (d + 1) YX11_cheapest 37 [some (.inr (.inr 64)), some (.inl p1), some (.inl v2), some (.inl v3), some (.inl v4), none] [] (557, gn, e_RF, M) o := by
  refine e_r_iload (pc' := 39) dX11_cheapest_37 rfl rfl ?_
  refine e_r_aload_n (pc' := 40) (by decide) dX11_cheapest_39 rfl rfl rfl ?_
  refine e_r_getr (k := 12) (q := 68) (pc' := 43) cl_11 rfl (Nat.le_of_ble_eq_true rfl) rfl rfl fl_RX11_23 rfl (Nat.le_of_ble_eq_true rfl) dX11_cheapest_40 rfl ?_
  refine e_r_iconst (pc' := 44) dX11_cheapest_43 rfl (by decide) ?_
  refine e_r_iald (j9 := 0) (pc' := 45) rfl (Nat.le_of_ble_eq_true rfl) (by decide) (by decide) rfl dX11_cheapest_44 rfl ?_
  obtain ⟨ht1, hf2⟩ := h
  refine e_r_icmp_ge (tgt := 98) (pc' := 48) dX11_cheapest_45 rfl rfl (fun c => ?_) (fun c => ?_)
  · have h := ht1 c
    refine e_r_iload_n (pc' := 99) dX11_cheapest_98 rfl rfl rfl ?_
    obtain ⟨ht3, hf4⟩ := h
    refine e_r_if_ne (tgt := 106) (pc' := 102) dX11_cheapest_99 rfl rfl (fun c => ?_) (fun c => ?_)
    · have h := ht3 c
      refine e_r_iload_n (pc' := 107) dX11_cheapest_106 rfl rfl rfl ?_
      exact e_r_iret (ty := .int) rfl (e_nI _) dX11_cheapest_107 h
    · have h := hf4 c
      refine e_r_iload_n (pc' := 103) dX11_cheapest_102 rfl rfl rfl ?_
      refine e_r_goto (pc' := 107) dX11_cheapest_103 rfl ?_
      exact e_r_iret (ty := .int) rfl (e_nI _) dX11_cheapest_107 h
  · have h := hf2 c
    refine e_r_aload_n (pc' := 49) (by decide) dX11_cheapest_48 rfl rfl rfl ?_
    refine e_r_aload_n (pc' := 50) (by decide) dX11_cheapest_49 rfl rfl rfl ?_
    refine e_r_getr (k := 31) (q := 532) (pc' := 53) cl_11 rfl (Nat.le_of_ble_eq_true rfl) rfl rfl fl_RX11_73 rfl (Nat.le_of_ble_eq_true rfl) dX11_cheapest_50 rfl ?_
    refine e_r_iload (pc' := 55) dX11_cheapest_53 rfl rfl ?_
    obtain ⟨r6, N5, he7, h⟩ := h
    refine e_r_callV (a := 64) (av := [.inr (.inr 532), .inl v4]) (st := []) mqYX11_priceOf ml_RX11_279 cl_11 rfl (Nat.le_of_ble_eq_true rfl) (by simp [e_cat]) rfl rfl rfl dX11_cheapest_55 (pc' := 58) rfl he7 ⟨Nat.le_refl _, Nat.le_refl _⟩ hmo ?_
    refine e_r_istore (pc' := 60) (loc' := [some (.inr (.inr 64)), some (.inl p1), some (.inl v2), some (.inl v3), some (.inl v4), some (.inl r6)]) dX11_cheapest_58 rfl rfl rfl rfl ?_
    refine e_r_aload_n (pc' := 61) (by decide) dX11_cheapest_60 rfl rfl rfl ?_
    refine e_r_getr (k := 31) (q := 532) (pc' := 64) cl_11 rfl (Nat.le_of_ble_eq_true rfl) rfl rfl fl_RX11_73 rfl (Nat.le_of_ble_eq_true rfl) dX11_cheapest_61 rfl ?_
    refine e_r_iload (pc' := 66) dX11_cheapest_64 rfl rfl ?_
    obtain ⟨r9, N8, he10, h⟩ := h
    refine e_r_callS (av := [.inr (.inr 532), .inl v4]) (st := []) mqYX11_isSold ml_RX11_261 (by simp [e_cat]) rfl rfl rfl dX11_cheapest_66 (pc' := 69) rfl he10 ⟨Nat.le_refl _, Nat.le_refl _⟩ hmo ?_
    obtain ⟨ht11, hf12⟩ := h
    refine e_r_if_ne (tgt := 92) (pc' := 72) dX11_cheapest_69 rfl rfl (fun c => ?_) (fun c => ?_)
    · have h := ht11 c
      refine e_r_iinc (pc' := 95) (loc' := [some (.inr (.inr 64)), some (.inl p1), some (.inl v2), some (.inl v3), some (.inl (e_w (v4 + 1))), some (.inl r6)]) dX11_cheapest_92 rfl rfl rfl rfl rfl ?_
      refine e_r_goto (pc' := 37) dX11_cheapest_95 rfl ?_
      exact e_forget (m := [true, true, true, true, true, false]) h rfl
    · have h := hf12 c
      refine e_r_iload_n (pc' := 73) dX11_cheapest_72 rfl rfl rfl ?_
      refine e_r_iconst (pc' := 74) dX11_cheapest_73 rfl (by decide) ?_
      obtain ⟨ht13, hf14⟩ := h
      refine e_r_icmp_eq (tgt := 86) (pc' := 77) dX11_cheapest_74 rfl rfl (fun c => ?_) (fun c => ?_)
      · have h := ht13 c
        refine e_r_iload (pc' := 88) dX11_cheapest_86 rfl rfl ?_
        refine e_r_istore_n (pc' := 89) (loc' := [some (.inr (.inr 64)), some (.inl p1), some (.inl v4), some (.inl v3), some (.inl v4), some (.inl r6)]) dX11_cheapest_88 rfl rfl rfl rfl rfl ?_
        refine e_r_iload (pc' := 91) dX11_cheapest_89 rfl rfl ?_
        refine e_r_istore_n (pc' := 92) (loc' := [some (.inr (.inr 64)), some (.inl p1), some (.inl v4), some (.inl r6), some (.inl v4), some (.inl r6)]) dX11_cheapest_91 rfl rfl rfl rfl rfl ?_
        refine e_r_iinc (pc' := 95) (loc' := [some (.inr (.inr 64)), some (.inl p1), some (.inl v4), some (.inl r6), some (.inl (e_w (v4 + 1))), some (.inl r6)]) dX11_cheapest_92 rfl rfl rfl rfl rfl ?_
        refine e_r_goto (pc' := 37) dX11_cheapest_95 rfl ?_
        exact e_forget (m := [true, true, true, true, true, false]) h rfl
      · have h := hf14 c
        refine e_r_iload (pc' := 79) dX11_cheapest_77 rfl rfl ?_
        refine e_r_iload_n (pc' := 80) dX11_cheapest_79 rfl rfl rfl ?_
        obtain ⟨ht15, hf16⟩ := h
        refine e_r_icmp_lt (tgt := 86) (pc' := 83) dX11_cheapest_80 rfl rfl (fun c => ?_) (fun c => ?_)
        · have h := ht15 c
          refine e_r_iload (pc' := 88) dX11_cheapest_86 rfl rfl ?_
          refine e_r_istore_n (pc' := 89) (loc' := [some (.inr (.inr 64)), some (.inl p1), some (.inl v4), some (.inl v3), some (.inl v4), some (.inl r6)]) dX11_cheapest_88 rfl rfl rfl rfl rfl ?_
          refine e_r_iload (pc' := 91) dX11_cheapest_89 rfl rfl ?_
          refine e_r_istore_n (pc' := 92) (loc' := [some (.inr (.inr 64)), some (.inl p1), some (.inl v4), some (.inl r6), some (.inl v4), some (.inl r6)]) dX11_cheapest_91 rfl rfl rfl rfl rfl ?_
          refine e_r_iinc (pc' := 95) (loc' := [some (.inr (.inr 64)), some (.inl p1), some (.inl v4), some (.inl r6), some (.inl (e_w (v4 + 1))), some (.inl r6)]) dX11_cheapest_92 rfl rfl rfl rfl rfl ?_
          refine e_r_goto (pc' := 37) dX11_cheapest_95 rfl ?_
          exact e_forget (m := [true, true, true, true, true, false]) h rfl
        · have h := hf16 c
          refine e_r_goto (pc' := 92) dX11_cheapest_83 rfl ?_
          refine e_r_iinc (pc' := 95) (loc' := [some (.inr (.inr 64)), some (.inl p1), some (.inl v2), some (.inl v3), some (.inl (e_w (v4 + 1))), some (.inl r6)]) dX11_cheapest_92 rfl rfl rfl rfl rfl ?_
          refine e_r_goto (pc' := 37) dX11_cheapest_95 rfl ?_
          exact e_forget (m := [true, true, true, true, true, false]) h rfl
theorem wp_X11_crowd_0 {X : e_X} {d gn : Nat} {o : e_O} (M : e_M) (p1 : Int) (hmo : e_mn (557, gn, e_RF, M) o.2) (h : (∃ (r2 : Int) (N1 : e_M), e_E X d YX11_in [.inl p1, .inl 0, .inl 1] (557, gn, e_RF, (e_up M 64 0 0)) (.inl (some (.inl r2)), (557, gn, e_RF, N1)) ∧ ((¬ r2 = 0 → e_G X (d + 1) YX11_crowd 20 [some (.inr (.inr 64)), some (.inl p1), none, none, none, none, none] [.inl 0, .inr (.inr 64)] (557, gn, e_RF, N1) o) ∧ (r2 = 0 → e_G X (d + 1) YX11_crowd 20 [some (.inr (.inr 64)), some (.inl p1), none, none, none, none, none] [.inl 1, .inr (.inr 64)] (557, gn, e_RF, N1) o)))) : e_G X (d + 1) YX11_crowd 0 [some (.inr (.inr 64)), some (.inl p1), none, none, none, none, none] [] (557, gn, e_RF, M) o := by
  refine e_r_aload_n (pc' := 1) (by decide) dX11_crowd_0 rfl rfl rfl ?_
  refine e_r_iconst (pc' := 2) dX11_crowd_1 rfl (by decide) ?_
  refine e_r_puti (k := 0) (pc' := 5) cl_11 rfl (Nat.le_of_ble_eq_true rfl) rfl rfl fl_RX11_97 rfl (by decide +kernel) dX11_crowd_2 rfl ?_
  refine e_r_aload_n (pc' := 6) (by decide) dX11_crowd_5 rfl rfl rfl ?_
  refine e_r_iload_n (pc' := 7) dX11_crowd_6 rfl rfl rfl ?_
  refine e_r_iconst (pc' := 8) dX11_crowd_7 rfl (by decide) ?_
  refine e_r_iconst (pc' := 9) dX11_crowd_8 rfl (by decide) ?_
  obtain ⟨r2, N1, he3, h⟩ := h
  refine e_r_callS (av := [.inl p1, .inl 0, .inl 1]) (st := [.inr (.inr 64)]) mqYX11_in ml_RX11_131 (by simp [e_cat]) rfl rfl rfl dX11_crowd_9 (pc' := 12) rfl he3 ⟨Nat.le_refl _, Nat.le_refl _⟩ hmo ?_
  obtain ⟨ht4, hf5⟩ := h
  refine e_r_if_ne (tgt := 19) (pc' := 15) dX11_crowd_12 rfl rfl (fun c => ?_) (fun c => ?_)
  · have h := ht4 c
    refine e_r_iconst (pc' := 20) dX11_crowd_19 rfl (by decide) ?_
    exact h
  · have h := hf5 c
    refine e_r_iconst (pc' := 16) dX11_crowd_15 rfl (by decide) ?_
    refine e_r_goto (pc' := 20) dX11_crowd_16 rfl ?_
    exact h
theorem wp_X11_crowd_20 {X : e_X} {d gn : Nat} {o : e_O} (M : e_M) (p1 w0 : Int) (hmo : e_mn (557, gn, e_RF, M) o.2) (h : (∃ (r2 : Int) (N1 : e_M), e_E X d YX11_bad [.inr (.inr 64), .inl w0, .inl 1, .inl 1] (557, gn, e_RF, M) (.inl (some (.inl r2)), (557, gn, e_RF, N1)) ∧ ((r2 = 0 → e_G X (d + 1) YX11_crowd 37 [some (.inr (.inr 64)), some (.inl p1), some (.inl (-1)), some (.inl 0), some (.inl 0), none, none] [] (557, gn, e_RF, N1) o) ∧ (¬ (r2 = 0) → (o = (.inl (some (.inl 0)), (557, gn, e_RF, N1))))))) : e_G X (d + 1) YX11_crowd 20 [some (.inr (.inr 64)), some (.inl p1), none, none, none, none, none] [.inl w0, .inr (.inr 64)] (557, gn, e_RF, M) o := by
  refine e_r_iconst (pc' := 21) dX11_crowd_20 rfl (by decide) ?_
  refine e_r_iconst (pc' := 22) dX11_crowd_21 rfl (by decide) ?_
  obtain ⟨r2, N1, he3, h⟩ := h
  refine e_r_callV (a := 64) (av := [.inl w0, .inl 1, .inl 1]) (st := []) mqYX11_bad ml_RX11_173 cl_11 rfl (Nat.le_of_ble_eq_true rfl) (by simp [e_cat]) rfl rfl rfl dX11_crowd_22 (pc' := 25) rfl he3 ⟨Nat.le_refl _, Nat.le_refl _⟩ hmo ?_
  obtain ⟨ht4, hf5⟩ := h
  refine e_r_if_eq (tgt := 30) (pc' := 28) dX11_crowd_25 rfl rfl (fun c => ?_) (fun c => ?_)
  · have h := ht4 c
    refine e_r_iconst (pc' := 31) dX11_crowd_30 rfl (by decide) ?_
    refine e_r_istore_n (pc' := 32) (loc' := [some (.inr (.inr 64)), some (.inl p1), some (.inl (-1)), none, none, none, none]) dX11_crowd_31 rfl rfl rfl rfl rfl ?_
    refine e_r_iconst (pc' := 33) dX11_crowd_32 rfl (by decide) ?_
    refine e_r_istore_n (pc' := 34) (loc' := [some (.inr (.inr 64)), some (.inl p1), some (.inl (-1)), some (.inl 0), none, none, none]) dX11_crowd_33 rfl rfl rfl rfl rfl ?_
    refine e_r_iconst (pc' := 35) dX11_crowd_34 rfl (by decide) ?_
    refine e_r_istore (pc' := 37) (loc' := [some (.inr (.inr 64)), some (.inl p1), some (.inl (-1)), some (.inl 0), some (.inl 0), none, none]) dX11_crowd_35 rfl rfl rfl rfl ?_
    exact h
  · have h := hf5 c
    refine e_r_iconst (pc' := 29) dX11_crowd_28 rfl (by decide) ?_
    exact e_r_iret (ty := .int) rfl (e_nI _) dX11_crowd_29 h
theorem wp_X11_crowd_37 {X : e_X} {d gn : Nat} {o : e_O} (M : e_M) (p1 v2 v3 v4 : Int) (h : ((60 < v4 → ((p1 = 0 → (o = (.inl (some (.inl v2)), (557, gn, e_RF, M)))) ∧ (¬ (p1 = 0) → ((¬ v2 = (-1) → (o = (.inl (some (.inl v3)), (557, gn, e_RF, M)))) ∧ (v2 = (-1) → (o = (.inl (some (.inl v2)), (557, gn, e_RF, M)))))))) ∧ (¬ (60 < v4) → e_G X (d + 1) YX11_crowd 50 [some (.inr (.inr 64)), some (.inl p1), some (.inl v2), some (.inl v3), some (.inl v4), some (.inl 0), some (.inl 0)] [] (557, gn, e_RF, M) o))) : e_G X (d + 1) YX11_crowd 37 [some (.inr (.inr 64)), some (.inl p1), some (.inl v2), some (.inl v3), some (.inl v4), none, none] [] (557, gn, e_RF, M) o := by
  refine e_r_iload (pc' := 39) dX11_crowd_37 rfl rfl ?_
  refine e_r_bipush (pc' := 41) dX11_crowd_39 rfl (by decide) ?_
  obtain ⟨ht1, hf2⟩ := h
  refine e_r_icmp_gt (tgt := 126) (pc' := 44) dX11_crowd_41 rfl rfl (fun c => ?_) (fun c => ?_)
  · have h := ht1 c
    refine e_r_iload_n (pc' := 127) dX11_crowd_126 rfl rfl rfl ?_
    obtain ⟨ht3, hf4⟩ := h
    refine e_r_if_eq (tgt := 135) (pc' := 130) dX11_crowd_127 rfl rfl (fun c => ?_) (fun c => ?_)
    · have h := ht3 c
      refine e_r_iload_n (pc' := 136) dX11_crowd_135 rfl rfl rfl ?_
      refine e_r_goto (pc' := 140) dX11_crowd_136 rfl ?_
      exact e_r_iret (ty := .int) rfl (e_nI _) dX11_crowd_140 h
    · have h := hf4 c
      refine e_r_iload_n (pc' := 131) dX11_crowd_130 rfl rfl rfl ?_
      refine e_r_iconst (pc' := 132) dX11_crowd_131 rfl (by decide) ?_
      obtain ⟨ht5, hf6⟩ := h
      refine e_r_icmp_ne (tgt := 139) (pc' := 135) dX11_crowd_132 rfl rfl (fun c => ?_) (fun c => ?_)
      · have h := ht5 c
        refine e_r_iload_n (pc' := 140) dX11_crowd_139 rfl rfl rfl ?_
        exact e_r_iret (ty := .int) rfl (e_nI _) dX11_crowd_140 h
      · have h := hf6 c
        refine e_r_iload_n (pc' := 136) dX11_crowd_135 rfl rfl rfl ?_
        refine e_r_goto (pc' := 140) dX11_crowd_136 rfl ?_
        exact e_r_iret (ty := .int) rfl (e_nI _) dX11_crowd_140 h
  · have h := hf2 c
    refine e_r_iconst (pc' := 45) dX11_crowd_44 rfl (by decide) ?_
    refine e_r_istore (pc' := 47) (loc' := [some (.inr (.inr 64)), some (.inl p1), some (.inl v2), some (.inl v3), some (.inl v4), some (.inl 0), none]) dX11_crowd_45 rfl rfl rfl rfl ?_
    refine e_r_iconst (pc' := 48) dX11_crowd_47 rfl (by decide) ?_
    refine e_r_istore (pc' := 50) (loc' := [some (.inr (.inr 64)), some (.inl p1), some (.inl v2), some (.inl v3), some (.inl v4), some (.inl 0), some (.inl 0)]) dX11_crowd_48 rfl rfl rfl rfl ?_
    exact h
theorem wp_X11_crowd_50 {X : e_X} {d gn : Nat} {o : e_O} (M : e_M) (p1 v2 v3 v4 v5 v6 : Int) (h : (((M 68 2) ≤ v6 → ((v3 < v5 → e_G X (d + 1) YX11_crowd 37 [some (.inr (.inr 64)), some (.inl p1), some (.inl v4), some (.inl v5), some (.inl (e_w (v4 + 1))), none, none] [] (557, gn, e_RF, M) o) ∧ (¬ (v3 < v5) → e_G X (d + 1) YX11_crowd 37 [some (.inr (.inr 64)), some (.inl p1), some (.inl v2), some (.inl v3), some (.inl (e_w (v4 + 1))), none, none] [] (557, gn, e_RF, M) o))) ∧ (¬ ((M 68 2) ≤ v6) → ((0 ≤ (e_w (42 + v6)) ∧ (e_w (42 + v6)) < 56) ∧ ((¬ (M 532 (e_w (42 + v6)).toNat) = 0 → e_G X (d + 1) YX11_crowd 50 [some (.inr (.inr 64)), some (.inl p1), some (.inl v2), some (.inl v3), some (.inl v4), some (.inl (e_w (v5 + 0))), some (.inl (e_w (v6 + 1)))] [] (557, gn, e_RF, M) o) ∧ ((M 532 (e_w (42 + v6)).toNat) = 0 → ((0 ≤ (e_w (30 + v6)) ∧ (e_w (30 + v6)) < 56) ∧ ((¬ (M 532 (e_w (30 + v6)).toNat) = v4 → e_G X (d + 1) YX11_crowd 50 [some (.inr (.inr 64)), some (.inl p1), some (.inl v2), some (.inl v3), some (.inl v4), some (.inl (e_w (v5 + 0))), some (.inl (e_w (v6 + 1)))] [] (557, gn, e_RF, M) o) ∧ ((M 532 (e_w (30 + v6)).toNat) = v4 → e_G X (d + 1) YX11_crowd 50 [some (.inr (.inr 64)), some (.inl p1), some (.inl v2), some (.inl v3), some (.inl v4), some (.inl (e_w (v5 + 1))), some (.inl (e_w (v6 + 1)))] [] (557, gn, e_RF, M) o))))))))) : e_G X (d + 1) YX11_crowd 50 [some (.inr (.inr 64)), some (.inl p1), some (.inl v2), some (.inl v3), some (.inl v4), some (.inl v5), some (.inl v6)] [] (557, gn, e_RF, M) o := by
  refine e_r_iload (pc' := 52) dX11_crowd_50 rfl rfl ?_
  refine e_r_aload_n (pc' := 53) (by decide) dX11_crowd_52 rfl rfl rfl ?_
  refine e_r_getr (k := 12) (q := 68) (pc' := 56) cl_11 rfl (Nat.le_of_ble_eq_true rfl) rfl rfl fl_RX11_23 rfl (Nat.le_of_ble_eq_true rfl) dX11_crowd_53 rfl ?_
  refine e_r_iconst (pc' := 57) dX11_crowd_56 rfl (by decide) ?_
  refine e_r_iald (j9 := 2) (pc' := 58) rfl (Nat.le_of_ble_eq_true rfl) (by decide) (by decide) rfl dX11_crowd_57 rfl ?_
  obtain ⟨ht1, hf2⟩ := h
  refine e_r_icmp_ge (tgt := 105) (pc' := 61) dX11_crowd_58 rfl rfl (fun c => ?_) (fun c => ?_)
  · have h := ht1 c
    refine e_r_iload (pc' := 107) dX11_crowd_105 rfl rfl ?_
    refine e_r_iload_n (pc' := 108) dX11_crowd_107 rfl rfl rfl ?_
    obtain ⟨ht3, hf4⟩ := h
    refine e_r_icmp_gt (tgt := 114) (pc' := 111) dX11_crowd_108 rfl rfl (fun c => ?_) (fun c => ?_)
    · have h := ht3 c
      refine e_r_iload (pc' := 116) dX11_crowd_114 rfl rfl ?_
      refine e_r_istore_n (pc' := 117) (loc' := [some (.inr (.inr 64)), some (.inl p1), some (.inl v4), some (.inl v3), some (.inl v4), some (.inl v5), some (.inl v6)]) dX11_crowd_116 rfl rfl rfl rfl rfl ?_
      refine e_r_iload (pc' := 119) dX11_crowd_117 rfl rfl ?_
      refine e_r_istore_n (pc' := 120) (loc' := [some (.inr (.inr 64)), some (.inl p1), some (.inl v4), some (.inl v5), some (.inl v4), some (.inl v5), some (.inl v6)]) dX11_crowd_119 rfl rfl rfl rfl rfl ?_
      refine e_r_iinc (pc' := 123) (loc' := [some (.inr (.inr 64)), some (.inl p1), some (.inl v4), some (.inl v5), some (.inl (e_w (v4 + 1))), some (.inl v5), some (.inl v6)]) dX11_crowd_120 rfl rfl rfl rfl rfl ?_
      refine e_r_goto (pc' := 37) dX11_crowd_123 rfl ?_
      exact e_forget (m := [true, true, true, true, true, false, false]) h rfl
    · have h := hf4 c
      refine e_r_goto (pc' := 120) dX11_crowd_111 rfl ?_
      refine e_r_iinc (pc' := 123) (loc' := [some (.inr (.inr 64)), some (.inl p1), some (.inl v2), some (.inl v3), some (.inl (e_w (v4 + 1))), some (.inl v5), some (.inl v6)]) dX11_crowd_120 rfl rfl rfl rfl rfl ?_
      refine e_r_goto (pc' := 37) dX11_crowd_123 rfl ?_
      exact e_forget (m := [true, true, true, true, true, false, false]) h rfl
  · have h := hf2 c
    refine e_r_iload (pc' := 63) dX11_crowd_61 rfl rfl ?_
    refine e_r_aload_n (pc' := 64) (by decide) dX11_crowd_63 rfl rfl rfl ?_
    refine e_r_getr (k := 31) (q := 532) (pc' := 67) cl_11 rfl (Nat.le_of_ble_eq_true rfl) rfl rfl fl_RX11_73 rfl (Nat.le_of_ble_eq_true rfl) dX11_crowd_64 rfl ?_
    refine e_r_bipush (pc' := 69) dX11_crowd_67 rfl (by decide) ?_
    refine e_r_iload (pc' := 71) dX11_crowd_69 rfl rfl ?_
    refine e_r_iadd (pc' := 72) dX11_crowd_71 rfl ?_
    obtain ⟨hb5, h⟩ := h
    refine e_r_iald (j9 := (e_w (42 + v6)).toNat) (pc' := 73) rfl (Nat.le_of_ble_eq_true rfl) hb5.1 hb5.2 rfl dX11_crowd_72 rfl ?_
    obtain ⟨ht6, hf7⟩ := h
    refine e_r_if_ne (tgt := 95) (pc' := 76) dX11_crowd_73 rfl rfl (fun c => ?_) (fun c => ?_)
    · have h := ht6 c
      refine e_r_iconst (pc' := 96) dX11_crowd_95 rfl (by decide) ?_
      refine e_r_iadd (pc' := 97) dX11_crowd_96 rfl ?_
      refine e_r_istore (pc' := 99) (loc' := [some (.inr (.inr 64)), some (.inl p1), some (.inl v2), some (.inl v3), some (.inl v4), some (.inl (e_w (v5 + 0))), some (.inl v6)]) dX11_crowd_97 rfl rfl rfl rfl ?_
      refine e_r_iinc (pc' := 102) (loc' := [some (.inr (.inr 64)), some (.inl p1), some (.inl v2), some (.inl v3), some (.inl v4), some (.inl (e_w (v5 + 0))), some (.inl (e_w (v6 + 1)))]) dX11_crowd_99 rfl rfl rfl rfl rfl ?_
      refine e_r_goto (pc' := 50) dX11_crowd_102 rfl ?_
      exact h
    · have h := hf7 c
      refine e_r_aload_n (pc' := 77) (by decide) dX11_crowd_76 rfl rfl rfl ?_
      refine e_r_getr (k := 31) (q := 532) (pc' := 80) cl_11 rfl (Nat.le_of_ble_eq_true rfl) rfl rfl fl_RX11_73 rfl (Nat.le_of_ble_eq_true rfl) dX11_crowd_77 rfl ?_
      refine e_r_bipush (pc' := 82) dX11_crowd_80 rfl (by decide) ?_
      refine e_r_iload (pc' := 84) dX11_crowd_82 rfl rfl ?_
      refine e_r_iadd (pc' := 85) dX11_crowd_84 rfl ?_
      obtain ⟨hb8, h⟩ := h
      refine e_r_iald (j9 := (e_w (30 + v6)).toNat) (pc' := 86) rfl (Nat.le_of_ble_eq_true rfl) hb8.1 hb8.2 rfl dX11_crowd_85 rfl ?_
      refine e_r_iload (pc' := 88) dX11_crowd_86 rfl rfl ?_
      obtain ⟨ht9, hf10⟩ := h
      refine e_r_icmp_ne (tgt := 95) (pc' := 91) dX11_crowd_88 rfl rfl (fun c => ?_) (fun c => ?_)
      · have h := ht9 c
        refine e_r_iconst (pc' := 96) dX11_crowd_95 rfl (by decide) ?_
        refine e_r_iadd (pc' := 97) dX11_crowd_96 rfl ?_
        refine e_r_istore (pc' := 99) (loc' := [some (.inr (.inr 64)), some (.inl p1), some (.inl v2), some (.inl v3), some (.inl v4), some (.inl (e_w (v5 + 0))), some (.inl v6)]) dX11_crowd_97 rfl rfl rfl rfl ?_
        refine e_r_iinc (pc' := 102) (loc' := [some (.inr (.inr 64)), some (.inl p1), some (.inl v2), some (.inl v3), some (.inl v4), some (.inl (e_w (v5 + 0))), some (.inl (e_w (v6 + 1)))]) dX11_crowd_99 rfl rfl rfl rfl rfl ?_
        refine e_r_goto (pc' := 50) dX11_crowd_102 rfl ?_
        exact h
      · have h := hf10 c
        refine e_r_iconst (pc' := 92) dX11_crowd_91 rfl (by decide) ?_
        refine e_r_goto (pc' := 96) dX11_crowd_92 rfl ?_
        refine e_r_iadd (pc' := 97) dX11_crowd_96 rfl ?_
        refine e_r_istore (pc' := 99) (loc' := [some (.inr (.inr 64)), some (.inl p1), some (.inl v2), some (.inl v3), some (.inl v4), some (.inl (e_w (v5 + 1))), some (.inl v6)]) dX11_crowd_97 rfl rfl rfl rfl ?_
        refine e_r_iinc (pc' := 102) (loc' := [some (.inr (.inr 64)), some (.inl p1), some (.inl v2), some (.inl v3), some (.inl v4), some (.inl (e_w (v5 + 1))), some (.inl (e_w (v6 + 1)))]) dX11_crowd_99 rfl rfl rfl rfl rfl ?_
        refine e_r_goto (pc' := 50) dX11_crowd_102 rfl ?_
        exact h
theorem wp_X11_rush_0 {X : e_X} {d gn : Nat} {o : e_O} (M : e_M) (hmo : e_mn (557, gn, e_RF, M) o.2) (h : (∃ N1 : e_M, e_E X d YX11_copies [.inr (.inr 532), .inr (.inr 533)] (557, gn, e_RF, (e_up M 64 0 0)) (.inl none, (557, gn, e_RF, N1)) ∧ e_G X (d + 1) YX11_rush 20 [some (.inr (.inr 64)), some (.inl 0), some (.inl 0)] [] (557, gn, e_RF, N1) o)) : e_G X (d + 1) YX11_rush 0 [some (.inr (.inr 64)), none, none] [] (557, gn, e_RF, M) o := by
  refine e_r_aload_n (pc' := 1) (by decide) dX11_rush_0 rfl rfl rfl ?_
  refine e_r_iconst (pc' := 2) dX11_rush_1 rfl (by decide) ?_
  refine e_r_puti (k := 0) (pc' := 5) cl_11 rfl (Nat.le_of_ble_eq_true rfl) rfl rfl fl_RX11_97 rfl (by decide +kernel) dX11_rush_2 rfl ?_
  refine e_r_iconst (pc' := 6) dX11_rush_5 rfl (by decide) ?_
  refine e_r_istore_n (pc' := 7) (loc' := [some (.inr (.inr 64)), some (.inl 0), none]) dX11_rush_6 rfl rfl rfl rfl rfl ?_
  refine e_r_aload_n (pc' := 8) (by decide) dX11_rush_7 rfl rfl rfl ?_
  refine e_r_getr (k := 31) (q := 532) (pc' := 11) cl_11 rfl (Nat.le_of_ble_eq_true rfl) rfl rfl fl_RX11_73 rfl (Nat.le_of_ble_eq_true rfl) dX11_rush_8 rfl ?_
  refine e_r_aload_n (pc' := 12) (by decide) dX11_rush_11 rfl rfl rfl ?_
  refine e_r_getr (k := 32) (q := 533) (pc' := 15) cl_11 rfl (Nat.le_of_ble_eq_true rfl) rfl rfl fl_RX11_76 rfl (Nat.le_of_ble_eq_true rfl) dX11_rush_12 rfl ?_
  obtain ⟨N1, he2, h⟩ := h
  refine e_r_callS (av := [.inr (.inr 532), .inr (.inr 533)]) (st := []) mqYX11_copies ml_RX11_315 (by simp [e_cat]) rfl rfl rfl dX11_rush_15 (pc' := 18) rfl he2 ⟨Nat.le_refl _, Nat.le_refl _⟩ hmo ?_
  refine e_r_iconst (pc' := 19) dX11_rush_18 rfl (by decide) ?_
  refine e_r_istore_n (pc' := 20) (loc' := [some (.inr (.inr 64)), some (.inl 0), some (.inl 0)]) dX11_rush_19 rfl rfl rfl rfl rfl ?_
  exact h
theorem wp_X11_rush_20 {X : e_X} {d gn : Nat} {o : e_O} (M : e_M) (v1 v2 : Int) (hmo : e_mn (557, gn, e_RF, M) o.2) (h : (((M 68 0) ≤ v2 → (o = (.inl (some (.inl v1)), (557, gn, e_RF, M)))) ∧ (¬ ((M 68 0) ≤ v2) → (∃ (r4 : Int) (N3 : e_M), e_E X d YX11_buys [.inr (.inr 64), .inr (.inr 533), .inl v2] (557, gn, e_RF, M) (.inl (some (.inl r4)), (557, gn, e_RF, N3)) ∧ (∃ (r7 : Int) (N6 : e_M), e_E X d YX11_isSold [.inr (.inr 533), .inl v2] (557, gn, e_RF, N3) (.inl (some (.inl r7)), (557, gn, e_RF, N6)) ∧ ((r7 = 0 → e_G X (d + 1) YX11_rush 20 [some (.inr (.inr 64)), some (.inl (e_or v1 0)), some (.inl (e_w (v2 + 1)))] [] (557, gn, e_RF, N6) o) ∧ (¬ (r7 = 0) → e_G X (d + 1) YX11_rush 20 [some (.inr (.inr 64)), some (.inl (e_or v1 (e_shl 1 v2))), some (.inl (e_w (v2 + 1)))] [] (557, gn, e_RF, N6) o))))))) : e_G X (d + 1) YX11_rush 20 [some (.inr (.inr 64)), some (.inl v1), some (.inl v2)] [] (557, gn, e_RF, M) o := by
  refine e_r_iload_n (pc' := 21) dX11_rush_20 rfl rfl rfl ?_
  refine e_r_aload_n (pc' := 22) (by decide) dX11_rush_21 rfl rfl rfl ?_
  refine e_r_getr (k := 12) (q := 68) (pc' := 25) cl_11 rfl (Nat.le_of_ble_eq_true rfl) rfl rfl fl_RX11_23 rfl (Nat.le_of_ble_eq_true rfl) dX11_rush_22 rfl ?_
  refine e_r_iconst (pc' := 26) dX11_rush_25 rfl (by decide) ?_
  refine e_r_iald (j9 := 0) (pc' := 27) rfl (Nat.le_of_ble_eq_true rfl) (by decide) (by decide) rfl dX11_rush_26 rfl ?_
  obtain ⟨ht1, hf2⟩ := h
  refine e_r_icmp_ge (tgt := 67) (pc' := 30) dX11_rush_27 rfl rfl (fun c => ?_) (fun c => ?_)
  · have h := ht1 c
    refine e_r_iload_n (pc' := 68) dX11_rush_67 rfl rfl rfl ?_
    exact e_r_iret (ty := .int) rfl (e_nI _) dX11_rush_68 h
  · have h := hf2 c
    refine e_r_aload_n (pc' := 31) (by decide) dX11_rush_30 rfl rfl rfl ?_
    refine e_r_aload_n (pc' := 32) (by decide) dX11_rush_31 rfl rfl rfl ?_
    refine e_r_getr (k := 32) (q := 533) (pc' := 35) cl_11 rfl (Nat.le_of_ble_eq_true rfl) rfl rfl fl_RX11_76 rfl (Nat.le_of_ble_eq_true rfl) dX11_rush_32 rfl ?_
    refine e_r_iload_n (pc' := 36) dX11_rush_35 rfl rfl rfl ?_
    obtain ⟨r4, N3, he5, h⟩ := h
    refine e_r_callV (a := 64) (av := [.inr (.inr 533), .inl v2]) (st := []) mqYX11_buys ml_RX11_292 cl_11 rfl (Nat.le_of_ble_eq_true rfl) (by simp [e_cat]) rfl rfl rfl dX11_rush_36 (pc' := 39) rfl he5 ⟨Nat.le_refl _, Nat.le_refl _⟩ hmo ?_
    refine e_r_pop (pc' := 40) rfl dX11_rush_39 rfl ?_
    refine e_r_iload_n (pc' := 41) dX11_rush_40 rfl rfl rfl ?_
    refine e_r_aload_n (pc' := 42) (by decide) dX11_rush_41 rfl rfl rfl ?_
    refine e_r_getr (k := 32) (q := 533) (pc' := 45) cl_11 rfl (Nat.le_of_ble_eq_true rfl) rfl rfl fl_RX11_76 rfl (Nat.le_of_ble_eq_true rfl) dX11_rush_42 rfl ?_
    refine e_r_iload_n (pc' := 46) dX11_rush_45 rfl rfl rfl ?_
    obtain ⟨r7, N6, he8, h⟩ := h
    refine e_r_callS (av := [.inr (.inr 533), .inl v2]) (st := [.inl v1]) mqYX11_isSold ml_RX11_261 (by simp [e_cat]) rfl rfl rfl dX11_rush_46 (pc' := 49) rfl he8 ⟨Nat.le_refl _, Nat.le_refl _⟩ hmo ?_
    obtain ⟨ht9, hf10⟩ := h
    refine e_r_if_eq (tgt := 58) (pc' := 52) dX11_rush_49 rfl rfl (fun c => ?_) (fun c => ?_)
    · have h := ht9 c
      refine e_r_iconst (pc' := 59) dX11_rush_58 rfl (by decide) ?_
      refine e_r_ior (pc' := 60) dX11_rush_59 rfl ?_
      refine e_r_istore_n (pc' := 61) (loc' := [some (.inr (.inr 64)), some (.inl (e_or v1 0)), some (.inl v2)]) dX11_rush_60 rfl rfl rfl rfl rfl ?_
      refine e_r_iinc (pc' := 64) (loc' := [some (.inr (.inr 64)), some (.inl (e_or v1 0)), some (.inl (e_w (v2 + 1)))]) dX11_rush_61 rfl rfl rfl rfl rfl ?_
      refine e_r_goto (pc' := 20) dX11_rush_64 rfl ?_
      exact h
    · have h := hf10 c
      refine e_r_iconst (pc' := 53) dX11_rush_52 rfl (by decide) ?_
      refine e_r_iload_n (pc' := 54) dX11_rush_53 rfl rfl rfl ?_
      refine e_r_ishl (pc' := 55) dX11_rush_54 rfl ?_
      refine e_r_goto (pc' := 59) dX11_rush_55 rfl ?_
      refine e_r_ior (pc' := 60) dX11_rush_59 rfl ?_
      refine e_r_istore_n (pc' := 61) (loc' := [some (.inr (.inr 64)), some (.inl (e_or v1 (e_shl 1 v2))), some (.inl v2)]) dX11_rush_60 rfl rfl rfl rfl rfl ?_
      refine e_r_iinc (pc' := 64) (loc' := [some (.inr (.inr 64)), some (.inl (e_or v1 (e_shl 1 v2))), some (.inl (e_w (v2 + 1)))]) dX11_rush_61 rfl rfl rfl rfl rfl ?_
      refine e_r_goto (pc' := 20) dX11_rush_64 rfl ?_
      exact h
theorem wp_X11_clear_0 {X : e_X} {d gn : Nat} {o : e_O} (M : e_M) (p1 p2 : Int) (hmo : e_mn (557, gn, e_RF, M) o.2) (h : (∃ (r2 : Int) (N1 : e_M), e_E X d YX11_isPerson [.inr (.inr 64), .inl p1] (557, gn, e_RF, (e_up M 64 0 0)) (.inl (some (.inl r2)), (557, gn, e_RF, N1)) ∧ ((¬ r2 = 0 → e_G X (d + 1) YX11_clear 19 [some (.inr (.inr 64)), some (.inl p1), some (.inl p2), none, none] [.inl 0, .inr (.inr 64)] (557, gn, e_RF, N1) o) ∧ (r2 = 0 → e_G X (d + 1) YX11_clear 19 [some (.inr (.inr 64)), some (.inl p1), some (.inl p2), none, none] [.inl 1, .inr (.inr 64)] (557, gn, e_RF, N1) o)))) : e_G X (d + 1) YX11_clear 0 [some (.inr (.inr 64)), some (.inl p1), some (.inl p2), none, none] [] (557, gn, e_RF, M) o := by
  refine e_r_aload_n (pc' := 1) (by decide) dX11_clear_0 rfl rfl rfl ?_
  refine e_r_iconst (pc' := 2) dX11_clear_1 rfl (by decide) ?_
  refine e_r_puti (k := 0) (pc' := 5) cl_11 rfl (Nat.le_of_ble_eq_true rfl) rfl rfl fl_RX11_97 rfl (by decide +kernel) dX11_clear_2 rfl ?_
  refine e_r_aload_n (pc' := 6) (by decide) dX11_clear_5 rfl rfl rfl ?_
  refine e_r_aload_n (pc' := 7) (by decide) dX11_clear_6 rfl rfl rfl ?_
  refine e_r_iload_n (pc' := 8) dX11_clear_7 rfl rfl rfl ?_
  obtain ⟨r2, N1, he3, h⟩ := h
  refine e_r_callV (a := 64) (av := [.inl p1]) (st := [.inr (.inr 64)]) mqYX11_isPerson ml_RX11_325 cl_11 rfl (Nat.le_of_ble_eq_true rfl) (by simp [e_cat]) rfl rfl rfl dX11_clear_8 (pc' := 11) rfl he3 ⟨Nat.le_refl _, Nat.le_refl _⟩ hmo ?_
  obtain ⟨ht4, hf5⟩ := h
  refine e_r_if_ne (tgt := 18) (pc' := 14) dX11_clear_11 rfl rfl (fun c => ?_) (fun c => ?_)
  · have h := ht4 c
    refine e_r_iconst (pc' := 19) dX11_clear_18 rfl (by decide) ?_
    exact h
  · have h := hf5 c
    refine e_r_iconst (pc' := 15) dX11_clear_14 rfl (by decide) ?_
    refine e_r_goto (pc' := 19) dX11_clear_15 rfl ?_
    exact h
theorem wp_X11_clear_19 {X : e_X} {d gn : Nat} {o : e_O} (M : e_M) (p1 p2 w0 : Int) (hmo : e_mn (557, gn, e_RF, M) o.2) (h : (∃ (r2 : Int) (N1 : e_M), e_E X d YX11_bad [.inr (.inr 64), .inl w0, .inl 1, .inl 0] (557, gn, e_RF, M) (.inl (some (.inl r2)), (557, gn, e_RF, N1)) ∧ ((¬ r2 = 0 → (o = (.inl (some (.inl 0)), (557, gn, e_RF, N1)))) ∧ (r2 = 0 → (∃ (r7 : Int) (N6 : e_M), e_E X d YX11_in [.inl p2, .inl 0, .inl 20] (557, gn, e_RF, N1) (.inl (some (.inl r7)), (557, gn, e_RF, N6)) ∧ ((¬ r7 = 0 → e_G X (d + 1) YX11_clear 43 [some (.inr (.inr 64)), some (.inl p1), some (.inl p2), none, none] [.inl 0, .inr (.inr 64)] (557, gn, e_RF, N6) o) ∧ (r7 = 0 → e_G X (d + 1) YX11_clear 43 [some (.inr (.inr 64)), some (.inl p1), some (.inl p2), none, none] [.inl 1, .inr (.inr 64)] (557, gn, e_RF, N6) o))))))) : e_G X (d + 1) YX11_clear 19 [some (.inr (.inr 64)), some (.inl p1), some (.inl p2), none, none] [.inl w0, .inr (.inr 64)] (557, gn, e_RF, M) o := by
  refine e_r_iconst (pc' := 20) dX11_clear_19 rfl (by decide) ?_
  refine e_r_iconst (pc' := 21) dX11_clear_20 rfl (by decide) ?_
  obtain ⟨r2, N1, he3, h⟩ := h
  refine e_r_callV (a := 64) (av := [.inl w0, .inl 1, .inl 0]) (st := []) mqYX11_bad ml_RX11_173 cl_11 rfl (Nat.le_of_ble_eq_true rfl) (by simp [e_cat]) rfl rfl rfl dX11_clear_21 (pc' := 24) rfl he3 ⟨Nat.le_refl _, Nat.le_refl _⟩ hmo ?_
  obtain ⟨ht4, hf5⟩ := h
  refine e_r_if_ne (tgt := 51) (pc' := 27) dX11_clear_24 rfl rfl (fun c => ?_) (fun c => ?_)
  · have h := ht4 c
    refine e_r_iconst (pc' := 52) dX11_clear_51 rfl (by decide) ?_
    exact e_r_iret (ty := .int) rfl (e_nI _) dX11_clear_52 h
  · have h := hf5 c
    refine e_r_aload_n (pc' := 28) (by decide) dX11_clear_27 rfl rfl rfl ?_
    refine e_r_iload_n (pc' := 29) dX11_clear_28 rfl rfl rfl ?_
    refine e_r_iconst (pc' := 30) dX11_clear_29 rfl (by decide) ?_
    refine e_r_bipush (pc' := 32) dX11_clear_30 rfl (by decide) ?_
    obtain ⟨r7, N6, he8, h⟩ := h
    refine e_r_callS (av := [.inl p2, .inl 0, .inl 20]) (st := [.inr (.inr 64)]) mqYX11_in ml_RX11_131 (by simp [e_cat]) rfl rfl rfl dX11_clear_32 (pc' := 35) rfl he8 ⟨Nat.le_refl _, Nat.le_refl _⟩ hmo ?_
    obtain ⟨ht9, hf10⟩ := h
    refine e_r_if_ne (tgt := 42) (pc' := 38) dX11_clear_35 rfl rfl (fun c => ?_) (fun c => ?_)
    · have h := ht9 c
      refine e_r_iconst (pc' := 43) dX11_clear_42 rfl (by decide) ?_
      exact h
    · have h := hf10 c
      refine e_r_iconst (pc' := 39) dX11_clear_38 rfl (by decide) ?_
      refine e_r_goto (pc' := 43) dX11_clear_39 rfl ?_
      exact h
theorem wp_X11_clear_43 {X : e_X} {d gn : Nat} {o : e_O} (M : e_M) (p1 p2 w0 : Int) (hmo : e_mn (557, gn, e_RF, M) o.2) (h : (∃ (r2 : Int) (N1 : e_M), e_E X d YX11_bad [.inr (.inr 64), .inl w0, .inl 2, .inl 1] (557, gn, e_RF, M) (.inl (some (.inl r2)), (557, gn, e_RF, N1)) ∧ ((r2 = 0 → e_G X (d + 1) YX11_clear 58 [some (.inr (.inr 64)), some (.inl p1), some (.inl p2), some (.inl 0), some (.inl 0)] [] (557, gn, e_RF, N1) o) ∧ (¬ (r2 = 0) → (o = (.inl (some (.inl 0)), (557, gn, e_RF, N1))))))) : e_G X (d + 1) YX11_clear 43 [some (.inr (.inr 64)), some (.inl p1), some (.inl p2), none, none] [.inl w0, .inr (.inr 64)] (557, gn, e_RF, M) o := by
  refine e_r_iconst (pc' := 44) dX11_clear_43 rfl (by decide) ?_
  refine e_r_iconst (pc' := 45) dX11_clear_44 rfl (by decide) ?_
  obtain ⟨r2, N1, he3, h⟩ := h
  refine e_r_callV (a := 64) (av := [.inl w0, .inl 2, .inl 1]) (st := []) mqYX11_bad ml_RX11_173 cl_11 rfl (Nat.le_of_ble_eq_true rfl) (by simp [e_cat]) rfl rfl rfl dX11_clear_45 (pc' := 48) rfl he3 ⟨Nat.le_refl _, Nat.le_refl _⟩ hmo ?_
  obtain ⟨ht4, hf5⟩ := h
  refine e_r_if_eq (tgt := 53) (pc' := 51) dX11_clear_48 rfl rfl (fun c => ?_) (fun c => ?_)
  · have h := ht4 c
    refine e_r_iconst (pc' := 54) dX11_clear_53 rfl (by decide) ?_
    refine e_r_istore_n (pc' := 55) (loc' := [some (.inr (.inr 64)), some (.inl p1), some (.inl p2), some (.inl 0), none]) dX11_clear_54 rfl rfl rfl rfl rfl ?_
    refine e_r_iconst (pc' := 56) dX11_clear_55 rfl (by decide) ?_
    refine e_r_istore (pc' := 58) (loc' := [some (.inr (.inr 64)), some (.inl p1), some (.inl p2), some (.inl 0), some (.inl 0)]) dX11_clear_56 rfl rfl rfl rfl ?_
    exact h
  · have h := hf5 c
    refine e_r_iconst (pc' := 52) dX11_clear_51 rfl (by decide) ?_
    exact e_r_iret (ty := .int) rfl (e_nI _) dX11_clear_52 h
theorem wp_X11_clear_58 {X : e_X} {d gn : Nat} {o : e_O} (M : e_M) (p1 p2 v3 v4 : Int) (hmo : e_mn (557, gn, e_RF, M) o.2) (h : ((p2 ≤ v4 → (o = (.inl (some (.inl v3)), (557, gn, e_RF, M)))) ∧ (¬ (p2 ≤ v4) → (∃ (r4 : Int) (N3 : e_M), e_E X d YX11_isKept [.inr (.inr 64), .inl p1, .inl (e_w ((M 532 55) + v4))] (557, gn, e_RF, M) (.inl (some (.inl r4)), (557, gn, e_RF, N3)) ∧ ((r4 = 0 → e_G X (d + 1) YX11_clear 58 [some (.inr (.inr 64)), some (.inl p1), some (.inl p2), some (.inl (e_or v3 (e_shl 1 v4))), some (.inl (e_w (v4 + 1)))] [] (557, gn, e_RF, N3) o) ∧ (¬ (r4 = 0) → e_G X (d + 1) YX11_clear 58 [some (.inr (.inr 64)), some (.inl p1), some (.inl p2), some (.inl (e_or v3 0)), some (.inl (e_w (v4 + 1)))] [] (557, gn, e_RF, N3) o)))))) : e_G X (d + 1) YX11_clear 58 [some (.inr (.inr 64)), some (.inl p1), some (.inl p2), some (.inl v3), some (.inl v4)] [] (557, gn, e_RF, M) o := by
  refine e_r_iload (pc' := 60) dX11_clear_58 rfl rfl ?_
  refine e_r_iload_n (pc' := 61) dX11_clear_60 rfl rfl rfl ?_
  obtain ⟨ht1, hf2⟩ := h
  refine e_r_icmp_ge (tgt := 99) (pc' := 64) dX11_clear_61 rfl rfl (fun c => ?_) (fun c => ?_)
  · have h := ht1 c
    refine e_r_iload_n (pc' := 100) dX11_clear_99 rfl rfl rfl ?_
    exact e_r_iret (ty := .int) rfl (e_nI _) dX11_clear_100 h
  · have h := hf2 c
    refine e_r_iload_n (pc' := 65) dX11_clear_64 rfl rfl rfl ?_
    refine e_r_aload_n (pc' := 66) (by decide) dX11_clear_65 rfl rfl rfl ?_
    refine e_r_iload_n (pc' := 67) dX11_clear_66 rfl rfl rfl ?_
    refine e_r_aload_n (pc' := 68) (by decide) dX11_clear_67 rfl rfl rfl ?_
    refine e_r_getr (k := 31) (q := 532) (pc' := 71) cl_11 rfl (Nat.le_of_ble_eq_true rfl) rfl rfl fl_RX11_73 rfl (Nat.le_of_ble_eq_true rfl) dX11_clear_68 rfl ?_
    refine e_r_bipush (pc' := 73) dX11_clear_71 rfl (by decide) ?_
    refine e_r_iald (j9 := 55) (pc' := 74) rfl (Nat.le_of_ble_eq_true rfl) (by decide) (by decide) rfl dX11_clear_73 rfl ?_
    refine e_r_iload (pc' := 76) dX11_clear_74 rfl rfl ?_
    refine e_r_iadd (pc' := 77) dX11_clear_76 rfl ?_
    obtain ⟨r4, N3, he5, h⟩ := h
    refine e_r_callV (a := 64) (av := [.inl p1, .inl (e_w ((M 532 55) + v4))]) (st := [.inl v3]) mqYX11_isKept ml_RX11_335 cl_11 rfl (Nat.le_of_ble_eq_true rfl) (by simp [e_cat]) rfl rfl rfl dX11_clear_77 (pc' := 80) rfl he5 ⟨Nat.le_refl _, Nat.le_refl _⟩ hmo ?_
    obtain ⟨ht6, hf7⟩ := h
    refine e_r_if_eq (tgt := 87) (pc' := 83) dX11_clear_80 rfl rfl (fun c => ?_) (fun c => ?_)
    · have h := ht6 c
      refine e_r_iconst (pc' := 88) dX11_clear_87 rfl (by decide) ?_
      refine e_r_iload (pc' := 90) dX11_clear_88 rfl rfl ?_
      refine e_r_ishl (pc' := 91) dX11_clear_90 rfl ?_
      refine e_r_ior (pc' := 92) dX11_clear_91 rfl ?_
      refine e_r_istore_n (pc' := 93) (loc' := [some (.inr (.inr 64)), some (.inl p1), some (.inl p2), some (.inl (e_or v3 (e_shl 1 v4))), some (.inl v4)]) dX11_clear_92 rfl rfl rfl rfl rfl ?_
      refine e_r_iinc (pc' := 96) (loc' := [some (.inr (.inr 64)), some (.inl p1), some (.inl p2), some (.inl (e_or v3 (e_shl 1 v4))), some (.inl (e_w (v4 + 1)))]) dX11_clear_93 rfl rfl rfl rfl rfl ?_
      refine e_r_goto (pc' := 58) dX11_clear_96 rfl ?_
      exact h
    · have h := hf7 c
      refine e_r_iconst (pc' := 84) dX11_clear_83 rfl (by decide) ?_
      refine e_r_goto (pc' := 91) dX11_clear_84 rfl ?_
      refine e_r_ior (pc' := 92) dX11_clear_91 rfl ?_
      refine e_r_istore_n (pc' := 93) (loc' := [some (.inr (.inr 64)), some (.inl p1), some (.inl p2), some (.inl (e_or v3 0)), some (.inl v4)]) dX11_clear_92 rfl rfl rfl rfl rfl ?_
      refine e_r_iinc (pc' := 96) (loc' := [some (.inr (.inr 64)), some (.inl p1), some (.inl p2), some (.inl (e_or v3 0)), some (.inl (e_w (v4 + 1)))]) dX11_clear_93 rfl rfl rfl rfl rfl ?_
      refine e_r_goto (pc' := 58) dX11_clear_96 rfl ?_
      exact h
theorem wp_X11_richest_0 {X : e_X} {d gn : Nat} {o : e_O} (M : e_M) (p1 : Int) (hmo : e_mn (557, gn, e_RF, M) o.2) (h : (∃ (r2 : Int) (N1 : e_M), e_E X d YX11_in [.inl p1, .inl 0, .inl 1] (557, gn, e_RF, (e_up M 64 0 0)) (.inl (some (.inl r2)), (557, gn, e_RF, N1)) ∧ ((¬ r2 = 0 → e_G X (d + 1) YX11_richest 20 [some (.inr (.inr 64)), some (.inl p1), none, none] [.inl 0, .inr (.inr 64)] (557, gn, e_RF, N1) o) ∧ (r2 = 0 → e_G X (d + 1) YX11_richest 20 [some (.inr (.inr 64)), some (.inl p1), none, none] [.inl 1, .inr (.inr 64)] (557, gn, e_RF, N1) o)))) : e_G X (d + 1) YX11_richest 0 [some (.inr (.inr 64)), some (.inl p1), none, none] [] (557, gn, e_RF, M) o := by
  refine e_r_aload_n (pc' := 1) (by decide) dX11_richest_0 rfl rfl rfl ?_
  refine e_r_iconst (pc' := 2) dX11_richest_1 rfl (by decide) ?_
  refine e_r_puti (k := 0) (pc' := 5) cl_11 rfl (Nat.le_of_ble_eq_true rfl) rfl rfl fl_RX11_97 rfl (by decide +kernel) dX11_richest_2 rfl ?_
  refine e_r_aload_n (pc' := 6) (by decide) dX11_richest_5 rfl rfl rfl ?_
  refine e_r_iload_n (pc' := 7) dX11_richest_6 rfl rfl rfl ?_
  refine e_r_iconst (pc' := 8) dX11_richest_7 rfl (by decide) ?_
  refine e_r_iconst (pc' := 9) dX11_richest_8 rfl (by decide) ?_
  obtain ⟨r2, N1, he3, h⟩ := h
  refine e_r_callS (av := [.inl p1, .inl 0, .inl 1]) (st := [.inr (.inr 64)]) mqYX11_in ml_RX11_131 (by simp [e_cat]) rfl rfl rfl dX11_richest_9 (pc' := 12) rfl he3 ⟨Nat.le_refl _, Nat.le_refl _⟩ hmo ?_
  obtain ⟨ht4, hf5⟩ := h
  refine e_r_if_ne (tgt := 19) (pc' := 15) dX11_richest_12 rfl rfl (fun c => ?_) (fun c => ?_)
  · have h := ht4 c
    refine e_r_iconst (pc' := 20) dX11_richest_19 rfl (by decide) ?_
    exact h
  · have h := hf5 c
    refine e_r_iconst (pc' := 16) dX11_richest_15 rfl (by decide) ?_
    refine e_r_goto (pc' := 20) dX11_richest_16 rfl ?_
    exact h
theorem wp_X11_richest_20 {X : e_X} {d gn : Nat} {o : e_O} (M : e_M) (p1 w0 : Int) (hmo : e_mn (557, gn, e_RF, M) o.2) (h : (∃ (r2 : Int) (N1 : e_M), e_E X d YX11_bad [.inr (.inr 64), .inl w0, .inl 1, .inl 1] (557, gn, e_RF, M) (.inl (some (.inl r2)), (557, gn, e_RF, N1)) ∧ ((r2 = 0 → e_G X (d + 1) YX11_richest 34 [some (.inr (.inr 64)), some (.inl p1), some (.inl (-1)), some (.inl 0)] [] (557, gn, e_RF, N1) o) ∧ (¬ (r2 = 0) → (o = (.inl (some (.inl 0)), (557, gn, e_RF, N1))))))) : e_G X (d + 1) YX11_richest 20 [some (.inr (.inr 64)), some (.inl p1), none, none] [.inl w0, .inr (.inr 64)] (557, gn, e_RF, M) o := by
  refine e_r_iconst (pc' := 21) dX11_richest_20 rfl (by decide) ?_
  refine e_r_iconst (pc' := 22) dX11_richest_21 rfl (by decide) ?_
  obtain ⟨r2, N1, he3, h⟩ := h
  refine e_r_callV (a := 64) (av := [.inl w0, .inl 1, .inl 1]) (st := []) mqYX11_bad ml_RX11_173 cl_11 rfl (Nat.le_of_ble_eq_true rfl) (by simp [e_cat]) rfl rfl rfl dX11_richest_22 (pc' := 25) rfl he3 ⟨Nat.le_refl _, Nat.le_refl _⟩ hmo ?_
  obtain ⟨ht4, hf5⟩ := h
  refine e_r_if_eq (tgt := 30) (pc' := 28) dX11_richest_25 rfl rfl (fun c => ?_) (fun c => ?_)
  · have h := ht4 c
    refine e_r_iconst (pc' := 31) dX11_richest_30 rfl (by decide) ?_
    refine e_r_istore_n (pc' := 32) (loc' := [some (.inr (.inr 64)), some (.inl p1), some (.inl (-1)), none]) dX11_richest_31 rfl rfl rfl rfl rfl ?_
    refine e_r_iconst (pc' := 33) dX11_richest_32 rfl (by decide) ?_
    refine e_r_istore_n (pc' := 34) (loc' := [some (.inr (.inr 64)), some (.inl p1), some (.inl (-1)), some (.inl 0)]) dX11_richest_33 rfl rfl rfl rfl rfl ?_
    exact h
  · have h := hf5 c
    refine e_r_iconst (pc' := 29) dX11_richest_28 rfl (by decide) ?_
    exact e_r_iret (ty := .int) rfl (e_nI _) dX11_richest_29 h
theorem wp_X11_richest_34 {X : e_X} {d gn : Nat} {o : e_O} (M : e_M) (p1 v2 v3 : Int) (h : (((M 68 0) ≤ v3 → ((p1 = 0 → (o = (.inl (some (.inl v2)), (557, gn, e_RF, M)))) ∧ (¬ (p1 = 0) → ((¬ v2 = (-1) → ((0 ≤ (e_w (0 + v2)) ∧ (e_w (0 + v2)) < 56) ∧ (o = (.inl (some (.inl (M 532 (e_w (0 + v2)).toNat))), (557, gn, e_RF, M))))) ∧ (v2 = (-1) → (o = (.inl (some (.inl v2)), (557, gn, e_RF, M)))))))) ∧ (¬ ((M 68 0) ≤ v3) → ((v2 = (-1) → e_G X (d + 1) YX11_richest 34 [some (.inr (.inr 64)), some (.inl p1), some (.inl v3), some (.inl (e_w (v3 + 1)))] [] (557, gn, e_RF, M) o) ∧ (¬ (v2 = (-1)) → ((0 ≤ (e_w (0 + v3)) ∧ (e_w (0 + v3)) < 56) ∧ ((0 ≤ (e_w (0 + v2)) ∧ (e_w (0 + v2)) < 56) ∧ (((M 532 (e_w (0 + v3)).toNat) ≤ (M 532 (e_w (0 + v2)).toNat) → e_G X (d + 1) YX11_richest 34 [some (.inr (.inr 64)), some (.inl p1), some (.inl v2), some (.inl (e_w (v3 + 1)))] [] (557, gn, e_RF, M) o) ∧ (¬ ((M 532 (e_w (0 + v3)).toNat) ≤ (M 532 (e_w (0 + v2)).toNat)) → e_G X (d + 1) YX11_richest 34 [some (.inr (.inr 64)), some (.inl p1), some (.inl v3), some (.inl (e_w (v3 + 1)))] [] (557, gn, e_RF, M) o))))))))) : e_G X (d + 1) YX11_richest 34 [some (.inr (.inr 64)), some (.inl p1), some (.inl v2), some (.inl v3)] [] (557, gn, e_RF, M) o := by
  refine e_r_iload_n (pc' := 35) dX11_richest_34 rfl rfl rfl ?_
  refine e_r_aload_n (pc' := 36) (by decide) dX11_richest_35 rfl rfl rfl ?_
  refine e_r_getr (k := 12) (q := 68) (pc' := 39) cl_11 rfl (Nat.le_of_ble_eq_true rfl) rfl rfl fl_RX11_23 rfl (Nat.le_of_ble_eq_true rfl) dX11_richest_36 rfl ?_
  refine e_r_iconst (pc' := 40) dX11_richest_39 rfl (by decide) ?_
  refine e_r_iald (j9 := 0) (pc' := 41) rfl (Nat.le_of_ble_eq_true rfl) (by decide) (by decide) rfl dX11_richest_40 rfl ?_
  obtain ⟨ht1, hf2⟩ := h
  refine e_r_icmp_ge (tgt := 80) (pc' := 44) dX11_richest_41 rfl rfl (fun c => ?_) (fun c => ?_)
  · have h := ht1 c
    refine e_r_iload_n (pc' := 81) dX11_richest_80 rfl rfl rfl ?_
    obtain ⟨ht3, hf4⟩ := h
    refine e_r_if_eq (tgt := 89) (pc' := 84) dX11_richest_81 rfl rfl (fun c => ?_) (fun c => ?_)
    · have h := ht3 c
      refine e_r_iload_n (pc' := 90) dX11_richest_89 rfl rfl rfl ?_
      refine e_r_goto (pc' := 101) dX11_richest_90 rfl ?_
      exact e_r_iret (ty := .int) rfl (e_nI _) dX11_richest_101 h
    · have h := hf4 c
      refine e_r_iload_n (pc' := 85) dX11_richest_84 rfl rfl rfl ?_
      refine e_r_iconst (pc' := 86) dX11_richest_85 rfl (by decide) ?_
      obtain ⟨ht5, hf6⟩ := h
      refine e_r_icmp_ne (tgt := 93) (pc' := 89) dX11_richest_86 rfl rfl (fun c => ?_) (fun c => ?_)
      · have h := ht5 c
        refine e_r_aload_n (pc' := 94) (by decide) dX11_richest_93 rfl rfl rfl ?_
        refine e_r_getr (k := 31) (q := 532) (pc' := 97) cl_11 rfl (Nat.le_of_ble_eq_true rfl) rfl rfl fl_RX11_73 rfl (Nat.le_of_ble_eq_true rfl) dX11_richest_94 rfl ?_
        refine e_r_iconst (pc' := 98) dX11_richest_97 rfl (by decide) ?_
        refine e_r_iload_n (pc' := 99) dX11_richest_98 rfl rfl rfl ?_
        refine e_r_iadd (pc' := 100) dX11_richest_99 rfl ?_
        obtain ⟨hb7, h⟩ := h
        refine e_r_iald (j9 := (e_w (0 + v2)).toNat) (pc' := 101) rfl (Nat.le_of_ble_eq_true rfl) hb7.1 hb7.2 rfl dX11_richest_100 rfl ?_
        exact e_r_iret (ty := .int) rfl (e_nI _) dX11_richest_101 h
      · have h := hf6 c
        refine e_r_iload_n (pc' := 90) dX11_richest_89 rfl rfl rfl ?_
        refine e_r_goto (pc' := 101) dX11_richest_90 rfl ?_
        exact e_r_iret (ty := .int) rfl (e_nI _) dX11_richest_101 h
  · have h := hf2 c
    refine e_r_iload_n (pc' := 45) dX11_richest_44 rfl rfl rfl ?_
    refine e_r_iconst (pc' := 46) dX11_richest_45 rfl (by decide) ?_
    obtain ⟨ht8, hf9⟩ := h
    refine e_r_icmp_eq (tgt := 68) (pc' := 49) dX11_richest_46 rfl rfl (fun c => ?_) (fun c => ?_)
    · have h := ht8 c
      refine e_r_iload_n (pc' := 69) dX11_richest_68 rfl rfl rfl ?_
      refine e_r_goto (pc' := 73) dX11_richest_69 rfl ?_
      refine e_r_istore_n (pc' := 74) (loc' := [some (.inr (.inr 64)), some (.inl p1), some (.inl v3), some (.inl v3)]) dX11_richest_73 rfl rfl rfl rfl rfl ?_
      refine e_r_iinc (pc' := 77) (loc' := [some (.inr (.inr 64)), some (.inl p1), some (.inl v3), some (.inl (e_w (v3 + 1)))]) dX11_richest_74 rfl rfl rfl rfl rfl ?_
      refine e_r_goto (pc' := 34) dX11_richest_77 rfl ?_
      exact h
    · have h := hf9 c
      refine e_r_aload_n (pc' := 50) (by decide) dX11_richest_49 rfl rfl rfl ?_
      refine e_r_getr (k := 31) (q := 532) (pc' := 53) cl_11 rfl (Nat.le_of_ble_eq_true rfl) rfl rfl fl_RX11_73 rfl (Nat.le_of_ble_eq_true rfl) dX11_richest_50 rfl ?_
      refine e_r_iconst (pc' := 54) dX11_richest_53 rfl (by decide) ?_
      refine e_r_iload_n (pc' := 55) dX11_richest_54 rfl rfl rfl ?_
      refine e_r_iadd (pc' := 56) dX11_richest_55 rfl ?_
      obtain ⟨hb10, h⟩ := h
      refine e_r_iald (j9 := (e_w (0 + v3)).toNat) (pc' := 57) rfl (Nat.le_of_ble_eq_true rfl) hb10.1 hb10.2 rfl dX11_richest_56 rfl ?_
      refine e_r_aload_n (pc' := 58) (by decide) dX11_richest_57 rfl rfl rfl ?_
      refine e_r_getr (k := 31) (q := 532) (pc' := 61) cl_11 rfl (Nat.le_of_ble_eq_true rfl) rfl rfl fl_RX11_73 rfl (Nat.le_of_ble_eq_true rfl) dX11_richest_58 rfl ?_
      refine e_r_iconst (pc' := 62) dX11_richest_61 rfl (by decide) ?_
      refine e_r_iload_n (pc' := 63) dX11_richest_62 rfl rfl rfl ?_
      refine e_r_iadd (pc' := 64) dX11_richest_63 rfl ?_
      obtain ⟨hb11, h⟩ := h
      refine e_r_iald (j9 := (e_w (0 + v2)).toNat) (pc' := 65) rfl (Nat.le_of_ble_eq_true rfl) hb11.1 hb11.2 rfl dX11_richest_64 rfl ?_
      obtain ⟨ht12, hf13⟩ := h
      refine e_r_icmp_le (tgt := 72) (pc' := 68) dX11_richest_65 rfl rfl (fun c => ?_) (fun c => ?_)
      · have h := ht12 c
        refine e_r_iload_n (pc' := 73) dX11_richest_72 rfl rfl rfl ?_
        refine e_r_istore_n (pc' := 74) (loc' := [some (.inr (.inr 64)), some (.inl p1), some (.inl v2), some (.inl v3)]) dX11_richest_73 rfl rfl rfl rfl rfl ?_
        refine e_r_iinc (pc' := 77) (loc' := [some (.inr (.inr 64)), some (.inl p1), some (.inl v2), some (.inl (e_w (v3 + 1)))]) dX11_richest_74 rfl rfl rfl rfl rfl ?_
        refine e_r_goto (pc' := 34) dX11_richest_77 rfl ?_
        exact h
      · have h := hf13 c
        refine e_r_iload_n (pc' := 69) dX11_richest_68 rfl rfl rfl ?_
        refine e_r_goto (pc' := 73) dX11_richest_69 rfl ?_
        refine e_r_istore_n (pc' := 74) (loc' := [some (.inr (.inr 64)), some (.inl p1), some (.inl v3), some (.inl v3)]) dX11_richest_73 rfl rfl rfl rfl rfl ?_
        refine e_r_iinc (pc' := 77) (loc' := [some (.inr (.inr 64)), some (.inl p1), some (.inl v3), some (.inl (e_w (v3 + 1)))]) dX11_richest_74 rfl rfl rfl rfl rfl ?_
        refine e_r_goto (pc' := 34) dX11_richest_77 rfl ?_
        exact h
theorem wp_X11_back_0 {X : e_X} {d gn : Nat} {o : e_O} (M : e_M) (p1 : Int) (hmo : e_mn (557, gn, e_RF, M) o.2) (h : (∃ (r2 : Int) (N1 : e_M), e_E X d YX11_isPerson [.inr (.inr 64), .inl p1] (557, gn, e_RF, (e_up M 64 0 0)) (.inl (some (.inl r2)), (557, gn, e_RF, N1)) ∧ ((¬ r2 = 0 → e_G X (d + 1) YX11_back 19 [some (.inr (.inr 64)), some (.inl p1)] [.inl 0, .inr (.inr 64)] (557, gn, e_RF, N1) o) ∧ (r2 = 0 → e_G X (d + 1) YX11_back 19 [some (.inr (.inr 64)), some (.inl p1)] [.inl 1, .inr (.inr 64)] (557, gn, e_RF, N1) o)))) : e_G X (d + 1) YX11_back 0 [some (.inr (.inr 64)), some (.inl p1)] [] (557, gn, e_RF, M) o := by
  refine e_r_aload_n (pc' := 1) (by decide) dX11_back_0 rfl rfl rfl ?_
  refine e_r_iconst (pc' := 2) dX11_back_1 rfl (by decide) ?_
  refine e_r_puti (k := 0) (pc' := 5) cl_11 rfl (Nat.le_of_ble_eq_true rfl) rfl rfl fl_RX11_97 rfl (by decide +kernel) dX11_back_2 rfl ?_
  refine e_r_aload_n (pc' := 6) (by decide) dX11_back_5 rfl rfl rfl ?_
  refine e_r_aload_n (pc' := 7) (by decide) dX11_back_6 rfl rfl rfl ?_
  refine e_r_iload_n (pc' := 8) dX11_back_7 rfl rfl rfl ?_
  obtain ⟨r2, N1, he3, h⟩ := h
  refine e_r_callV (a := 64) (av := [.inl p1]) (st := [.inr (.inr 64)]) mqYX11_isPerson ml_RX11_325 cl_11 rfl (Nat.le_of_ble_eq_true rfl) (by simp [e_cat]) rfl rfl rfl dX11_back_8 (pc' := 11) rfl he3 ⟨Nat.le_refl _, Nat.le_refl _⟩ hmo ?_
  obtain ⟨ht4, hf5⟩ := h
  refine e_r_if_ne (tgt := 18) (pc' := 14) dX11_back_11 rfl rfl (fun c => ?_) (fun c => ?_)
  · have h := ht4 c
    refine e_r_iconst (pc' := 19) dX11_back_18 rfl (by decide) ?_
    exact h
  · have h := hf5 c
    refine e_r_iconst (pc' := 15) dX11_back_14 rfl (by decide) ?_
    refine e_r_goto (pc' := 19) dX11_back_15 rfl ?_
    exact h
theorem wp_X11_back_19 {X : e_X} {d gn : Nat} {o : e_O} (M : e_M) (p1 w0 : Int) (hmo : e_mn (557, gn, e_RF, M) o.2) (h : (∃ (r2 : Int) (N1 : e_M), e_E X d YX11_bad [.inr (.inr 64), .inl w0, .inl 1, .inl 0] (557, gn, e_RF, M) (.inl (some (.inl r2)), (557, gn, e_RF, N1)) ∧ ((r2 = 0 → (∃ (r7 : Int) (N6 : e_M), e_E X d YX11_isSold [.inr (.inr 532), .inl p1] (557, gn, e_RF, N1) (.inl (some (.inl r7)), (557, gn, e_RF, N6)) ∧ ((r7 = 0 → (o = (.inl (some (.inl (-1))), (557, gn, e_RF, N6)))) ∧ (¬ (r7 = 0) → ((0 ≤ (e_w (18 + p1)) ∧ (e_w (18 + p1)) < 56) ∧ (o = (.inl (some (.inl (e_w (Int.tdiv (N6 532 (e_w (18 + p1)).toNat) 2)))), (557, gn, e_RF, N6)))))))) ∧ (¬ (r2 = 0) → (o = (.inl (some (.inl 0)), (557, gn, e_RF, N1))))))) : e_G X (d + 1) YX11_back 19 [some (.inr (.inr 64)), some (.inl p1)] [.inl w0, .inr (.inr 64)] (557, gn, e_RF, M) o := by
  refine e_r_iconst (pc' := 20) dX11_back_19 rfl (by decide) ?_
  refine e_r_iconst (pc' := 21) dX11_back_20 rfl (by decide) ?_
  obtain ⟨r2, N1, he3, h⟩ := h
  refine e_r_callV (a := 64) (av := [.inl w0, .inl 1, .inl 0]) (st := []) mqYX11_bad ml_RX11_173 cl_11 rfl (Nat.le_of_ble_eq_true rfl) (by simp [e_cat]) rfl rfl rfl dX11_back_21 (pc' := 24) rfl he3 ⟨Nat.le_refl _, Nat.le_refl _⟩ hmo ?_
  obtain ⟨ht4, hf5⟩ := h
  refine e_r_if_eq (tgt := 29) (pc' := 27) dX11_back_24 rfl rfl (fun c => ?_) (fun c => ?_)
  · have h := ht4 c
    refine e_r_aload_n (pc' := 30) (by decide) dX11_back_29 rfl rfl rfl ?_
    refine e_r_getr (k := 31) (q := 532) (pc' := 33) cl_11 rfl (Nat.le_of_ble_eq_true rfl) rfl rfl fl_RX11_73 rfl (Nat.le_of_ble_eq_true rfl) dX11_back_30 rfl ?_
    refine e_r_iload_n (pc' := 34) dX11_back_33 rfl rfl rfl ?_
    obtain ⟨r7, N6, he8, h⟩ := h
    refine e_r_callS (av := [.inr (.inr 532), .inl p1]) (st := []) mqYX11_isSold ml_RX11_261 (by simp [e_cat]) rfl rfl rfl dX11_back_34 (pc' := 37) rfl he8 ⟨Nat.le_refl _, Nat.le_refl _⟩ hmo ?_
    obtain ⟨ht9, hf10⟩ := h
    refine e_r_if_eq (tgt := 54) (pc' := 40) dX11_back_37 rfl rfl (fun c => ?_) (fun c => ?_)
    · have h := ht9 c
      refine e_r_iconst (pc' := 55) dX11_back_54 rfl (by decide) ?_
      exact e_r_iret (ty := .int) rfl (e_nI _) dX11_back_55 h
    · have h := hf10 c
      refine e_r_aload_n (pc' := 41) (by decide) dX11_back_40 rfl rfl rfl ?_
      refine e_r_getr (k := 31) (q := 532) (pc' := 44) cl_11 rfl (Nat.le_of_ble_eq_true rfl) rfl rfl fl_RX11_73 rfl (Nat.le_of_ble_eq_true rfl) dX11_back_41 rfl ?_
      refine e_r_bipush (pc' := 46) dX11_back_44 rfl (by decide) ?_
      refine e_r_iload_n (pc' := 47) dX11_back_46 rfl rfl rfl ?_
      refine e_r_iadd (pc' := 48) dX11_back_47 rfl ?_
      obtain ⟨hb11, h⟩ := h
      refine e_r_iald (j9 := (e_w (18 + p1)).toNat) (pc' := 49) rfl (Nat.le_of_ble_eq_true rfl) hb11.1 hb11.2 rfl dX11_back_48 rfl ?_
      refine e_r_iconst (pc' := 50) dX11_back_49 rfl (by decide) ?_
      refine e_r_idiv (pc' := 51) (by decide) dX11_back_50 rfl ?_
      refine e_r_goto (pc' := 55) dX11_back_51 rfl ?_
      exact e_r_iret (ty := .int) rfl (e_nI _) dX11_back_55 h
  · have h := hf5 c
    refine e_r_iconst (pc' := 28) dX11_back_27 rfl (by decide) ?_
    exact e_r_iret (ty := .int) rfl (e_nI _) dX11_back_28 h
theorem wp_X11_loses_0 {X : e_X} {d gn : Nat} {o : e_O} (M : e_M) (p1 : Int) (hmo : e_mn (557, gn, e_RF, M) o.2) (h : (∃ (r2 : Int) (N1 : e_M), e_E X d YX11_in [.inl p1, .inl 0, .inl 99] (557, gn, e_RF, (e_up M 64 0 0)) (.inl (some (.inl r2)), (557, gn, e_RF, N1)) ∧ ((¬ r2 = 0 → e_G X (d + 1) YX11_loses 21 [some (.inr (.inr 64)), some (.inl p1), none] [.inl 0, .inr (.inr 64)] (557, gn, e_RF, N1) o) ∧ (r2 = 0 → e_G X (d + 1) YX11_loses 21 [some (.inr (.inr 64)), some (.inl p1), none] [.inl 1, .inr (.inr 64)] (557, gn, e_RF, N1) o)))) : e_G X (d + 1) YX11_loses 0 [some (.inr (.inr 64)), some (.inl p1), none] [] (557, gn, e_RF, M) o := by
  refine e_r_aload_n (pc' := 1) (by decide) dX11_loses_0 rfl rfl rfl ?_
  refine e_r_iconst (pc' := 2) dX11_loses_1 rfl (by decide) ?_
  refine e_r_puti (k := 0) (pc' := 5) cl_11 rfl (Nat.le_of_ble_eq_true rfl) rfl rfl fl_RX11_97 rfl (by decide +kernel) dX11_loses_2 rfl ?_
  refine e_r_aload_n (pc' := 6) (by decide) dX11_loses_5 rfl rfl rfl ?_
  refine e_r_iload_n (pc' := 7) dX11_loses_6 rfl rfl rfl ?_
  refine e_r_iconst (pc' := 8) dX11_loses_7 rfl (by decide) ?_
  refine e_r_bipush (pc' := 10) dX11_loses_8 rfl (by decide) ?_
  obtain ⟨r2, N1, he3, h⟩ := h
  refine e_r_callS (av := [.inl p1, .inl 0, .inl 99]) (st := [.inr (.inr 64)]) mqYX11_in ml_RX11_131 (by simp [e_cat]) rfl rfl rfl dX11_loses_10 (pc' := 13) rfl he3 ⟨Nat.le_refl _, Nat.le_refl _⟩ hmo ?_
  obtain ⟨ht4, hf5⟩ := h
  refine e_r_if_ne (tgt := 20) (pc' := 16) dX11_loses_13 rfl rfl (fun c => ?_) (fun c => ?_)
  · have h := ht4 c
    refine e_r_iconst (pc' := 21) dX11_loses_20 rfl (by decide) ?_
    exact h
  · have h := hf5 c
    refine e_r_iconst (pc' := 17) dX11_loses_16 rfl (by decide) ?_
    refine e_r_goto (pc' := 21) dX11_loses_17 rfl ?_
    exact h
theorem wp_X11_loses_21 {X : e_X} {d gn : Nat} {o : e_O} (M : e_M) (p1 w0 : Int) (hmo : e_mn (557, gn, e_RF, M) o.2) (h : (∃ (r2 : Int) (N1 : e_M), e_E X d YX11_bad [.inr (.inr 64), .inl w0, .inl 1, .inl 1] (557, gn, e_RF, M) (.inl (some (.inl r2)), (557, gn, e_RF, N1)) ∧ ((r2 = 0 → (∃ N6 : e_M, e_E X d YX11_copies [.inr (.inr 532), .inr (.inr 533)] (557, gn, e_RF, N1) (.inl none, (557, gn, e_RF, N6)) ∧ e_G X (d + 1) YX11_loses 44 [some (.inr (.inr 64)), some (.inl p1), some (.inl 0)] [] (557, gn, e_RF, N6) o)) ∧ (¬ (r2 = 0) → (o = (.inl (some (.inl 0)), (557, gn, e_RF, N1))))))) : e_G X (d + 1) YX11_loses 21 [some (.inr (.inr 64)), some (.inl p1), none] [.inl w0, .inr (.inr 64)] (557, gn, e_RF, M) o := by
  refine e_r_iconst (pc' := 22) dX11_loses_21 rfl (by decide) ?_
  refine e_r_iconst (pc' := 23) dX11_loses_22 rfl (by decide) ?_
  obtain ⟨r2, N1, he3, h⟩ := h
  refine e_r_callV (a := 64) (av := [.inl w0, .inl 1, .inl 1]) (st := []) mqYX11_bad ml_RX11_173 cl_11 rfl (Nat.le_of_ble_eq_true rfl) (by simp [e_cat]) rfl rfl rfl dX11_loses_23 (pc' := 26) rfl he3 ⟨Nat.le_refl _, Nat.le_refl _⟩ hmo ?_
  obtain ⟨ht4, hf5⟩ := h
  refine e_r_if_eq (tgt := 31) (pc' := 29) dX11_loses_26 rfl rfl (fun c => ?_) (fun c => ?_)
  · have h := ht4 c
    refine e_r_aload_n (pc' := 32) (by decide) dX11_loses_31 rfl rfl rfl ?_
    refine e_r_getr (k := 31) (q := 532) (pc' := 35) cl_11 rfl (Nat.le_of_ble_eq_true rfl) rfl rfl fl_RX11_73 rfl (Nat.le_of_ble_eq_true rfl) dX11_loses_32 rfl ?_
    refine e_r_aload_n (pc' := 36) (by decide) dX11_loses_35 rfl rfl rfl ?_
    refine e_r_getr (k := 32) (q := 533) (pc' := 39) cl_11 rfl (Nat.le_of_ble_eq_true rfl) rfl rfl fl_RX11_76 rfl (Nat.le_of_ble_eq_true rfl) dX11_loses_36 rfl ?_
    obtain ⟨N6, he7, h⟩ := h
    refine e_r_callS (av := [.inr (.inr 532), .inr (.inr 533)]) (st := []) mqYX11_copies ml_RX11_315 (by simp [e_cat]) rfl rfl rfl dX11_loses_39 (pc' := 42) rfl he7 ⟨Nat.le_refl _, Nat.le_refl _⟩ hmo ?_
    refine e_r_iconst (pc' := 43) dX11_loses_42 rfl (by decide) ?_
    refine e_r_istore_n (pc' := 44) (loc' := [some (.inr (.inr 64)), some (.inl p1), some (.inl 0)]) dX11_loses_43 rfl rfl rfl rfl rfl ?_
    exact h
  · have h := hf5 c
    refine e_r_iconst (pc' := 30) dX11_loses_29 rfl (by decide) ?_
    exact e_r_iret (ty := .int) rfl (e_nI _) dX11_loses_30 h
