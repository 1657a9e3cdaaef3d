theorem wp_X11_readsStep_0 {X : e_X} {d gn : Nat} {o : e_O} (M : e_M) (hmo : e_mn (557, gn, e_RF, M) o.2) (h : (∃ (r2 : Int) (N1 : e_M), e_E X d YX11_stepHere [.inr (.inr 64)] (557, gn, e_RF, M) (.inl (some (.inl r2)), (557, gn, e_RF, N1)) ∧ ((¬ r2 = (-1) → e_G X (d + 1) YX11_readsStep 19 [some (.inr (.inr 64)), some (.inl r2), none] [] (557, gn, e_RF, N1) o) ∧ (r2 = (-1) → (∃ N6 : e_M, e_E X d YX11_wrong [.inr (.inr 64), .inl 1, .inl (N1 64 4)] (557, gn, e_RF, N1) (.inl none, (557, gn, e_RF, N6)) ∧ e_G X (d + 1) YX11_readsStep 19 [some (.inr (.inr 64)), some (.inl r2), none] [] (557, gn, e_RF, N6) o))))) : e_G X (d + 1) YX11_readsStep 0 [some (.inr (.inr 64)), none, none] [] (557, gn, e_RF, M) o := by
  refine e_r_aload_n (pc' := 1) (by decide) dX11_readsStep_0 rfl rfl rfl ?_
  obtain ⟨r2, N1, he3, h⟩ := h
  refine e_r_callV (a := 64) (av := []) (st := []) mqYX11_stepHere ml_RX11_246 cl_11 rfl (Nat.le_of_ble_eq_true rfl) (by simp [e_cat]) rfl rfl rfl dX11_readsStep_1 (pc' := 4) rfl he3 ⟨Nat.le_refl _, Nat.le_refl _⟩ hmo ?_
  refine e_r_istore_n (pc' := 5) (loc' := [some (.inr (.inr 64)), some (.inl r2), none]) dX11_readsStep_4 rfl rfl rfl rfl rfl ?_
  refine e_r_iload_n (pc' := 6) dX11_readsStep_5 rfl rfl rfl ?_
  refine e_r_iconst (pc' := 7) dX11_readsStep_6 rfl (by decide) ?_
  obtain ⟨ht4, hf5⟩ := h
  refine e_r_icmp_ne (tgt := 19) (pc' := 10) dX11_readsStep_7 rfl rfl (fun c => ?_) (fun c => ?_)
  · have h := ht4 c
    exact h
  · have h := hf5 c
    refine e_r_aload_n (pc' := 11) (by decide) dX11_readsStep_10 rfl rfl rfl ?_
    refine e_r_iconst (pc' := 12) dX11_readsStep_11 rfl (by decide) ?_
    refine e_r_aload_n (pc' := 13) (by decide) dX11_readsStep_12 rfl rfl rfl ?_
    refine e_r_geti (k := 4) (pc' := 16) cl_11 rfl (Nat.le_of_ble_eq_true rfl) rfl rfl fl_RX11_106 dX11_readsStep_13 rfl ?_
    obtain ⟨N6, he7, h⟩ := h
    refine e_r_callV (a := 64) (av := [.inl 1, .inl (N1 64 4)]) (st := []) mqYX11_wrong ml_RX11_126 cl_11 rfl (Nat.le_of_ble_eq_true rfl) (by simp [e_cat]) rfl rfl rfl dX11_readsStep_16 (pc' := 19) rfl he7 ⟨Nat.le_refl _, Nat.le_refl _⟩ hmo ?_
    exact h
theorem wp_X11_readsStep_19 {X : e_X} {d gn : Nat} {o : e_O} (M : e_M) (v1 : Int) (hmo : e_mn (557, gn, e_RF, M) o.2) (h : ((¬ v1 = 4 → e_G X (d + 1) YX11_readsStep 32 [some (.inr (.inr 64)), some (.inl v1), none] [] (557, gn, e_RF, M) o) ∧ (v1 = 4 → (∃ (r4 : Int) (N3 : e_M), e_E X d YX11_opensOne [.inr (.inr 64)] (557, gn, e_RF, M) (.inl (some (.inl r4)), (557, gn, e_RF, N3)) ∧ ((¬ r4 = 0 → e_G X (d + 1) YX11_readsStep 32 [some (.inr (.inr 64)), some (.inl v1), none] [] (557, gn, e_RF, N3) o) ∧ (r4 = 0 → (o = (.inl none, (557, gn, e_RF, N3))))))))) : e_G X (d + 1) YX11_readsStep 19 [some (.inr (.inr 64)), some (.inl v1), none] [] (557, gn, e_RF, M) o := by
  refine e_r_iload_n (pc' := 20) dX11_readsStep_19 rfl rfl rfl ?_
  refine e_r_iconst (pc' := 21) dX11_readsStep_20 rfl (by decide) ?_
  obtain ⟨ht1, hf2⟩ := h
  refine e_r_icmp_ne (tgt := 32) (pc' := 24) dX11_readsStep_21 rfl rfl (fun c => ?_) (fun c => ?_)
  · have h := ht1 c
    exact h
  · have h := hf2 c
    refine e_r_aload_n (pc' := 25) (by decide) dX11_readsStep_24 rfl rfl rfl ?_
    obtain ⟨r4, N3, he5, h⟩ := h
    refine e_r_callV (a := 64) (av := []) (st := []) mqYX11_opensOne ml_RX11_227 cl_11 rfl (Nat.le_of_ble_eq_true rfl) (by simp [e_cat]) rfl rfl rfl dX11_readsStep_25 (pc' := 28) rfl he5 ⟨Nat.le_refl _, Nat.le_refl _⟩ hmo ?_
    obtain ⟨ht6, hf7⟩ := h
    refine e_r_if_ne (tgt := 32) (pc' := 31) dX11_readsStep_28 rfl rfl (fun c => ?_) (fun c => ?_)
    · have h := ht6 c
      exact h
    · have h := hf7 c
      exact e_r_vret rfl dX11_readsStep_31 h
theorem wp_X11_readsStep_32 {X : e_X} {d gn : Nat} {o : e_O} (M : e_M) (v1 : Int) (hmo : e_mn (557, gn, e_RF, M) o.2) (h : (((M 64 5) = 0 → (∃ N3 : e_M, e_E X d YX11_skipWord [.inr (.inr 64)] (557, gn, e_RF, M) (.inl none, (557, gn, e_RF, N3)) ∧ ((0 ≤ (N3 64 30) ∧ (N3 64 30) < 80) ∧ ((2 ≤ v1 → e_G X (d + 1) YX11_readsStep 89 [some (.inr (.inr 64)), some (.inl v1), some (.inr (.inr (452 + (N3 64 30).toNat)))] [] (557, gn, e_RF, (e_up (e_up N3 64 30 (e_w ((N3 64 30) + 1))) (452 + (N3 64 30).toNat) 0 v1)) o) ∧ (¬ (2 ≤ v1) → (∃ (r9 : Int) (N8 : e_M), e_E X d YX11_number [.inr (.inr 64), .inl 0, .inl (e_w (((e_up (e_up N3 64 30 (e_w ((N3 64 30) + 1))) (452 + (N3 64 30).toNat) 0 v1) 68 0) - 1))] (557, gn, e_RF, (e_up (e_up N3 64 30 (e_w ((N3 64 30) + 1))) (452 + (N3 64 30).toNat) 0 v1)) (.inl (some (.inl r9)), (557, gn, e_RF, N8)) ∧ e_G X (d + 1) YX11_readsStep 89 [some (.inr (.inr 64)), some (.inl v1), some (.inr (.inr (452 + (N3 64 30).toNat)))] [] (557, gn, e_RF, (e_up N8 (452 + (N3 64 30).toNat) 1 r9)) o)))))) ∧ (¬ ((M 64 5) = 0) → (o = (.inl none, (557, gn, e_RF, M)))))) : e_G X (d + 1) YX11_readsStep 32 [some (.inr (.inr 64)), some (.inl v1), none] [] (557, gn, e_RF, M) o := by
  refine e_r_aload_n (pc' := 33) (by decide) dX11_readsStep_32 rfl rfl rfl ?_
  refine e_r_geti (k := 5) (pc' := 36) cl_11 rfl (Nat.le_of_ble_eq_true rfl) rfl rfl fl_RX11_113 dX11_readsStep_33 rfl ?_
  obtain ⟨ht1, hf2⟩ := h
  refine e_r_if_eq (tgt := 40) (pc' := 39) dX11_readsStep_36 rfl rfl (fun c => ?_) (fun c => ?_)
  · have h := ht1 c
    refine e_r_aload_n (pc' := 41) (by decide) dX11_readsStep_40 rfl rfl rfl ?_
    obtain ⟨N3, he4, h⟩ := h
    refine e_r_callV (a := 64) (av := []) (st := []) mqYX11_skipWord ml_RX11_150 cl_11 rfl (Nat.le_of_ble_eq_true rfl) (by simp [e_cat]) rfl rfl rfl dX11_readsStep_41 (pc' := 44) rfl he4 ⟨Nat.le_refl _, Nat.le_refl _⟩ hmo ?_
    refine e_r_aload_n (pc' := 45) (by decide) dX11_readsStep_44 rfl rfl rfl ?_
    refine e_r_getr (k := 29) (q := 451) (pc' := 48) cl_11 rfl (Nat.le_of_ble_eq_true rfl) rfl rfl fl_RX11_70 rfl (Nat.le_of_ble_eq_true rfl) dX11_readsStep_45 rfl ?_
    refine e_r_aload_n (pc' := 49) (by decide) dX11_readsStep_48 rfl rfl rfl ?_
    refine e_r_geti (k := 30) (pc' := 52) cl_11 rfl (Nat.le_of_ble_eq_true rfl) rfl rfl fl_RX11_249 dX11_readsStep_49 rfl ?_
    obtain ⟨hb5, h⟩ := h
    refine e_r_aldr (q := (452 + (N3 64 30).toNat)) (pc' := 53) rfl (Nat.le_of_ble_eq_true rfl) hb5.1 hb5.2 rfl (sh_451 hb5.1 hb5.2).2.1 dX11_readsStep_52 rfl ?_
    refine e_r_astore_n (pc' := 54) (loc' := [some (.inr (.inr 64)), some (.inl v1), some (.inr (.inr (452 + (N3 64 30).toNat)))]) (sh_451 hb5.1 hb5.2).2.2 dX11_readsStep_53 rfl rfl rfl rfl rfl ?_
    refine e_r_aload_n (pc' := 55) (by decide) dX11_readsStep_54 rfl rfl rfl ?_
    refine e_r_dup (pc' := 56) rfl dX11_readsStep_55 rfl ?_
    refine e_r_geti (k := 30) (pc' := 59) cl_11 rfl (Nat.le_of_ble_eq_true rfl) rfl rfl fl_RX11_249 dX11_readsStep_56 rfl ?_
    refine e_r_iconst (pc' := 60) dX11_readsStep_59 rfl (by decide) ?_
    refine e_r_iadd (pc' := 61) dX11_readsStep_60 rfl ?_
    refine e_r_puti (k := 30) (pc' := 64) cl_11 rfl (Nat.le_of_ble_eq_true rfl) rfl rfl fl_RX11_249 rfl (by decide +kernel) dX11_readsStep_61 rfl ?_
    refine e_r_aload_n (pc' := 65) (sh_451 hb5.1 hb5.2).2.2 dX11_readsStep_64 rfl rfl rfl ?_
    refine e_r_iconst (pc' := 66) dX11_readsStep_65 rfl (by decide) ?_
    refine e_r_iload_n (pc' := 67) dX11_readsStep_66 rfl rfl rfl ?_
    refine e_r_iast (j9 := 0) (pc' := 68) (sh_451 hb5.1 hb5.2).1 (sh_451 hb5.1 hb5.2).2.1 (by decide) (by decide) rfl dX11_readsStep_67 rfl ?_
    refine e_r_iload_n (pc' := 69) dX11_readsStep_68 rfl rfl rfl ?_
    refine e_r_iconst (pc' := 70) dX11_readsStep_69 rfl (by decide) ?_
    obtain ⟨ht6, hf7⟩ := h
    refine e_r_icmp_ge (tgt := 89) (pc' := 73) dX11_readsStep_70 rfl rfl (fun c => ?_) (fun c => ?_)
    · have h := ht6 c
      exact h
    · have h := hf7 c
      refine e_r_aload_n (pc' := 74) (sh_451 hb5.1 hb5.2).2.2 dX11_readsStep_73 rfl rfl rfl ?_
      refine e_r_iconst (pc' := 75) dX11_readsStep_74 rfl (by decide) ?_
      refine e_r_aload_n (pc' := 76) (by decide) dX11_readsStep_75 rfl rfl rfl ?_
      refine e_r_iconst (pc' := 77) dX11_readsStep_76 rfl (by decide) ?_
      refine e_r_aload_n (pc' := 78) (by decide) dX11_readsStep_77 rfl rfl rfl ?_
      refine e_r_getr (k := 12) (q := 68) (pc' := 81) cl_11 rfl (Nat.le_of_ble_eq_true rfl) rfl rfl fl_RX11_23 rfl (Nat.le_of_ble_eq_true rfl) dX11_readsStep_78 rfl ?_
      refine e_r_iconst (pc' := 82) dX11_readsStep_81 rfl (by decide) ?_
      refine e_r_iald (j9 := 0) (pc' := 83) rfl (Nat.le_of_ble_eq_true rfl) (by decide) (by decide) rfl dX11_readsStep_82 rfl ?_
      refine e_r_iconst (pc' := 84) dX11_readsStep_83 rfl (by decide) ?_
      refine e_r_isub (pc' := 85) dX11_readsStep_84 rfl ?_
      obtain ⟨r9, N8, he10, h⟩ := h
      refine e_r_callV (a := 64) (av := [.inl 0, .inl (e_w (((e_up (e_up N3 64 30 (e_w ((N3 64 30) + 1))) (452 + (N3 64 30).toNat) 0 v1) 68 0) - 1))]) (st := [.inl 1, .inr (.inr (452 + (N3 64 30).toNat))]) mqYX11_number ml_RX11_165 cl_11 rfl (Nat.le_of_ble_eq_true rfl) (by simp [e_cat]) rfl rfl rfl dX11_readsStep_85 (pc' := 88) rfl he10 ⟨Nat.le_refl _, Nat.le_refl _⟩ hmo ?_
      refine e_r_iast (j9 := 1) (pc' := 89) (sh_451 hb5.1 hb5.2).1 (sh_451 hb5.1 hb5.2).2.1 (by decide) (by decide) rfl dX11_readsStep_88 rfl ?_
      exact h
  · have h := hf2 c
    exact e_r_vret rfl dX11_readsStep_39 h
theorem wp_X11_readsStep_89 {X : e_X} {d gn : Nat} {o : e_O} {u2 : Nat} (hu2 : e_SH u2 = (20, 4)) (ku2 : u2 ≤ 557) (zu2 : u2 ≠ 0) (M : e_M) (v1 : Int) (hmo : e_mn (557, gn, e_RF, M) o.2) (h : ((¬ v1 = 2 → e_G X (d + 1) YX11_readsStep 110 [some (.inr (.inr 64)), some (.inl v1), some (.inr (.inr u2))] [] (557, gn, e_RF, M) o) ∧ (v1 = 2 → (∃ (r4 : Int) (N3 : e_M), e_E X d YX11_number [.inr (.inr 64), .inl 0, .inl (e_w ((M 68 2) - 1))] (557, gn, e_RF, M) (.inl (some (.inl r4)), (557, gn, e_RF, N3)) ∧ e_G X (d + 1) YX11_readsStep 110 [some (.inr (.inr 64)), some (.inl v1), some (.inr (.inr u2))] [] (557, gn, e_RF, (e_up N3 u2 1 r4)) o)))) : e_G X (d + 1) YX11_readsStep 89 [some (.inr (.inr 64)), some (.inl v1), some (.inr (.inr u2))] [] (557, gn, e_RF, M) o := by
  refine e_r_iload_n (pc' := 90) dX11_readsStep_89 rfl rfl rfl ?_
  refine e_r_iconst (pc' := 91) dX11_readsStep_90 rfl (by decide) ?_
  obtain ⟨ht1, hf2⟩ := h
  refine e_r_icmp_ne (tgt := 110) (pc' := 94) dX11_readsStep_91 rfl rfl (fun c => ?_) (fun c => ?_)
  · have h := ht1 c
    exact h
  · have h := hf2 c
    refine e_r_aload_n (pc' := 95) zu2 dX11_readsStep_94 rfl rfl rfl ?_
    refine e_r_iconst (pc' := 96) dX11_readsStep_95 rfl (by decide) ?_
    refine e_r_aload_n (pc' := 97) (by decide) dX11_readsStep_96 rfl rfl rfl ?_
    refine e_r_iconst (pc' := 98) dX11_readsStep_97 rfl (by decide) ?_
    refine e_r_aload_n (pc' := 99) (by decide) dX11_readsStep_98 rfl rfl rfl ?_
    refine e_r_getr (k := 12) (q := 68) (pc' := 102) cl_11 rfl (Nat.le_of_ble_eq_true rfl) rfl rfl fl_RX11_23 rfl (Nat.le_of_ble_eq_true rfl) dX11_readsStep_99 rfl ?_
    refine e_r_iconst (pc' := 103) dX11_readsStep_102 rfl (by decide) ?_
    refine e_r_iald (j9 := 2) (pc' := 104) rfl (Nat.le_of_ble_eq_true rfl) (by decide) (by decide) rfl dX11_readsStep_103 rfl ?_
    refine e_r_iconst (pc' := 105) dX11_readsStep_104 rfl (by decide) ?_
    refine e_r_isub (pc' := 106) dX11_readsStep_105 rfl ?_
    obtain ⟨r4, N3, he5, h⟩ := h
    refine e_r_callV (a := 64) (av := [.inl 0, .inl (e_w ((M 68 2) - 1))]) (st := [.inl 1, .inr (.inr u2)]) mqYX11_number ml_RX11_165 cl_11 rfl (Nat.le_of_ble_eq_true rfl) (by simp [e_cat]) rfl rfl rfl dX11_readsStep_106 (pc' := 109) rfl he5 ⟨Nat.le_refl _, Nat.le_refl _⟩ hmo ?_
    refine e_r_iast (j9 := 1) (pc' := 110) hu2 ku2 (by decide) (by decide) rfl dX11_readsStep_109 rfl ?_
    exact h
theorem wp_X11_readsStep_110 {X : e_X} {d gn : Nat} {o : e_O} {u2 : Nat} (hu2 : e_SH u2 = (20, 4)) (ku2 : u2 ≤ 557) (zu2 : u2 ≠ 0) (M : e_M) (v1 : Int) (hmo : e_mn (557, gn, e_RF, M) o.2) (h : ((¬ v1 = 4 → e_G X (d + 1) YX11_readsStep 182 [some (.inr (.inr 64)), some (.inl v1), some (.inr (.inr u2))] [] (557, gn, e_RF, M) o) ∧ (v1 = 4 → (∃ (r4 : Int) (N3 : e_M), e_E X d YX11_number [.inr (.inr 64), .inl 0, .inl 60] (557, gn, e_RF, M) (.inl (some (.inl r4)), (557, gn, e_RF, N3)) ∧ (∃ N6 : e_M, e_E X d YX11_sign [.inr (.inr 64), .inl 91] (557, gn, e_RF, (e_up N3 u2 1 r4)) (.inl none, (557, gn, e_RF, N6)) ∧ (∃ N8 : e_M, e_E X d YX11_blanks [.inr (.inr 64)] (557, gn, e_RF, N6) (.inl none, (557, gn, e_RF, N8)) ∧ e_G X (d + 1) YX11_readsStep 135 [some (.inr (.inr 64)), some (.inl v1), some (.inr (.inr u2))] [] (557, gn, e_RF, N8) o)))))) : e_G X (d + 1) YX11_readsStep 110 [some (.inr (.inr 64)), some (.inl v1), some (.inr (.inr u2))] [] (557, gn, e_RF, M) o := by
  refine e_r_iload_n (pc' := 111) dX11_readsStep_110 rfl rfl rfl ?_
  refine e_r_iconst (pc' := 112) dX11_readsStep_111 rfl (by decide) ?_
  obtain ⟨ht1, hf2⟩ := h
  refine e_r_icmp_ne (tgt := 182) (pc' := 115) dX11_readsStep_112 rfl rfl (fun c => ?_) (fun c => ?_)
  · have h := ht1 c
    exact h
  · have h := hf2 c
    refine e_r_aload_n (pc' := 116) zu2 dX11_readsStep_115 rfl rfl rfl ?_
    refine e_r_iconst (pc' := 117) dX11_readsStep_116 rfl (by decide) ?_
    refine e_r_aload_n (pc' := 118) (by decide) dX11_readsStep_117 rfl rfl rfl ?_
    refine e_r_iconst (pc' := 119) dX11_readsStep_118 rfl (by decide) ?_
    refine e_r_bipush (pc' := 121) dX11_readsStep_119 rfl (by decide) ?_
    obtain ⟨r4, N3, he5, h⟩ := h
    refine e_r_callV (a := 64) (av := [.inl 0, .inl 60]) (st := [.inl 1, .inr (.inr u2)]) mqYX11_number ml_RX11_165 cl_11 rfl (Nat.le_of_ble_eq_true rfl) (by simp [e_cat]) rfl rfl rfl dX11_readsStep_121 (pc' := 124) rfl he5 ⟨Nat.le_refl _, Nat.le_refl _⟩ hmo ?_
    refine e_r_iast (j9 := 1) (pc' := 125) hu2 ku2 (by decide) (by decide) rfl dX11_readsStep_124 rfl ?_
    refine e_r_aload_n (pc' := 126) (by decide) dX11_readsStep_125 rfl rfl rfl ?_
    refine e_r_bipush (pc' := 128) dX11_readsStep_126 rfl (by decide) ?_
    obtain ⟨N6, he7, h⟩ := h
    refine e_r_callV (a := 64) (av := [.inl 91]) (st := []) mqYX11_sign ml_RX11_169 cl_11 rfl (Nat.le_of_ble_eq_true rfl) (by simp [e_cat]) rfl rfl rfl dX11_readsStep_128 (pc' := 131) rfl he7 ⟨Nat.le_refl _, Nat.le_refl _⟩ hmo ?_
    refine e_r_aload_n (pc' := 132) (by decide) dX11_readsStep_131 rfl rfl rfl ?_
    obtain ⟨N8, he9, h⟩ := h
    refine e_r_callV (a := 64) (av := []) (st := []) mqYX11_blanks ml_RX11_119 cl_11 rfl (Nat.le_of_ble_eq_true rfl) (by simp [e_cat]) rfl rfl rfl dX11_readsStep_132 (pc' := 135) rfl he9 ⟨Nat.le_refl _, Nat.le_refl _⟩ hmo ?_
    exact h
theorem wp_X11_readsStep_135 {X : e_X} {d gn : Nat} {o : e_O} {u2 : Nat} (hu2 : e_SH u2 = (20, 4)) (ku2 : u2 ≤ 557) (zu2 : u2 ≠ 0) (M : e_M) (v1 : Int) (hmo : e_mn (557, gn, e_RF, M) o.2) (h : ((¬ (M 64 5) = 0 → e_G X (d + 1) YX11_readsStep 166 [some (.inr (.inr 64)), some (.inl v1), some (.inr (.inr u2))] [] (557, gn, e_RF, M) o) ∧ ((M 64 5) = 0 → (∃ (r4 : Int) (N3 : e_M), e_E X d YX11_byteAt [.inr (.inr 64), .inl (M 64 4)] (557, gn, e_RF, M) (.inl (some (.inl r4)), (557, gn, e_RF, N3)) ∧ ((r4 = 93 → e_G X (d + 1) YX11_readsStep 166 [some (.inr (.inr 64)), some (.inl v1), some (.inr (.inr u2))] [] (557, gn, e_RF, N3) o) ∧ (¬ (r4 = 93) → (∃ N8 : e_M, e_E X d YX11_readsStep [.inr (.inr 64)] (557, gn, e_RF, N3) (.inl none, (557, gn, e_RF, N8)) ∧ (∃ N10 : e_M, e_E X d YX11_blanks [.inr (.inr 64)] (557, gn, e_RF, N8) (.inl none, (557, gn, e_RF, N10)) ∧ e_G X (d + 1) YX11_readsStep 135 [some (.inr (.inr 64)), some (.inl v1), some (.inr (.inr u2))] [] (557, gn, e_RF, N10) o)))))))) : e_G X (d + 1) YX11_readsStep 135 [some (.inr (.inr 64)), some (.inl v1), some (.inr (.inr u2))] [] (557, gn, e_RF, M) o := by
  refine e_r_aload_n (pc' := 136) (by decide) dX11_readsStep_135 rfl rfl rfl ?_
  refine e_r_geti (k := 5) (pc' := 139) cl_11 rfl (Nat.le_of_ble_eq_true rfl) rfl rfl fl_RX11_113 dX11_readsStep_136 rfl ?_
  obtain ⟨ht1, hf2⟩ := h
  refine e_r_if_ne (tgt := 166) (pc' := 142) dX11_readsStep_139 rfl rfl (fun c => ?_) (fun c => ?_)
  · have h := ht1 c
    exact h
  · have h := hf2 c
    refine e_r_aload_n (pc' := 143) (by decide) dX11_readsStep_142 rfl rfl rfl ?_
    refine e_r_aload_n (pc' := 144) (by decide) dX11_readsStep_143 rfl rfl rfl ?_
    refine e_r_geti (k := 4) (pc' := 147) cl_11 rfl (Nat.le_of_ble_eq_true rfl) rfl rfl fl_RX11_106 dX11_readsStep_144 rfl ?_
    obtain ⟨r4, N3, he5, h⟩ := h
    refine e_r_callV (a := 64) (av := [.inl (M 64 4)]) (st := []) mqYX11_byteAt ml_RX11_109 cl_11 rfl (Nat.le_of_ble_eq_true rfl) (by simp [e_cat]) rfl rfl rfl dX11_readsStep_147 (pc' := 150) rfl he5 ⟨Nat.le_refl _, Nat.le_refl _⟩ hmo ?_
    refine e_r_bipush (pc' := 152) dX11_readsStep_150 rfl (by decide) ?_
    obtain ⟨ht6, hf7⟩ := h
    refine e_r_icmp_eq (tgt := 166) (pc' := 155) dX11_readsStep_152 rfl rfl (fun c => ?_) (fun c => ?_)
    · have h := ht6 c
      exact h
    · have h := hf7 c
      refine e_r_aload_n (pc' := 156) (by decide) dX11_readsStep_155 rfl rfl rfl ?_
      obtain ⟨N8, he9, h⟩ := h
      refine e_r_callV (a := 64) (av := []) (st := []) mqYX11_readsStep ml_RX11_252 cl_11 rfl (Nat.le_of_ble_eq_true rfl) (by simp [e_cat]) rfl rfl rfl dX11_readsStep_156 (pc' := 159) rfl he9 ⟨Nat.le_refl _, Nat.le_refl _⟩ hmo ?_
      refine e_r_aload_n (pc' := 160) (by decide) dX11_readsStep_159 rfl rfl rfl ?_
      obtain ⟨N10, he11, h⟩ := h
      refine e_r_callV (a := 64) (av := []) (st := []) mqYX11_blanks ml_RX11_119 cl_11 rfl (Nat.le_of_ble_eq_true rfl) (by simp [e_cat]) rfl rfl rfl dX11_readsStep_160 (pc' := 163) rfl he11 ⟨Nat.le_refl _, Nat.le_refl _⟩ hmo ?_
      refine e_r_goto (pc' := 135) dX11_readsStep_163 rfl ?_
      exact h
theorem wp_X11_readsStep_166 {X : e_X} {d gn : Nat} {o : e_O} {u2 : Nat} (hu2 : e_SH u2 = (20, 4)) (ku2 : u2 ≤ 557) (zu2 : u2 ≠ 0) (M : e_M) (v1 : Int) (hmo : e_mn (557, gn, e_RF, M) o.2) (h : (∃ N1 : e_M, e_E X d YX11_sign [.inr (.inr 64), .inl 93] (557, gn, e_RF, M) (.inl none, (557, gn, e_RF, N1)) ∧ e_G X (d + 1) YX11_readsStep 182 [some (.inr (.inr 64)), some (.inl v1), some (.inr (.inr u2))] [] (557, gn, e_RF, (e_up N1 64 8 (e_w ((N1 64 8) - 1)))) o)) : e_G X (d + 1) YX11_readsStep 166 [some (.inr (.inr 64)), some (.inl v1), some (.inr (.inr u2))] [] (557, gn, e_RF, M) o := by
  refine e_r_aload_n (pc' := 167) (by decide) dX11_readsStep_166 rfl rfl rfl ?_
  refine e_r_bipush (pc' := 169) dX11_readsStep_167 rfl (by decide) ?_
  obtain ⟨N1, he2, h⟩ := h
  refine e_r_callV (a := 64) (av := [.inl 93]) (st := []) mqYX11_sign ml_RX11_169 cl_11 rfl (Nat.le_of_ble_eq_true rfl) (by simp [e_cat]) rfl rfl rfl dX11_readsStep_169 (pc' := 172) rfl he2 ⟨Nat.le_refl _, Nat.le_refl _⟩ hmo ?_
  refine e_r_aload_n (pc' := 173) (by decide) dX11_readsStep_172 rfl rfl rfl ?_
  refine e_r_dup (pc' := 174) rfl dX11_readsStep_173 rfl ?_
  refine e_r_geti (k := 8) (pc' := 177) cl_11 rfl (Nat.le_of_ble_eq_true rfl) rfl rfl fl_RX11_156 dX11_readsStep_174 rfl ?_
  refine e_r_iconst (pc' := 178) dX11_readsStep_177 rfl (by decide) ?_
  refine e_r_isub (pc' := 179) dX11_readsStep_178 rfl ?_
  refine e_r_puti (k := 8) (pc' := 182) cl_11 rfl (Nat.le_of_ble_eq_true rfl) rfl rfl fl_RX11_156 rfl (by decide +kernel) dX11_readsStep_179 rfl ?_
  exact h
theorem wp_X11_readsStep_182 {X : e_X} {d gn : Nat} {o : e_O} {u2 : Nat} (hu2 : e_SH u2 = (20, 4)) (ku2 : u2 ≤ 557) (zu2 : u2 ≠ 0) (M : e_M) (v1 : Int) (hmo : e_mn (557, gn, e_RF, M) o.2) (h : (∃ N1 : e_M, e_E X d YX11_sign [.inr (.inr 64), .inl 59] (557, gn, e_RF, (e_up M u2 3 (M 64 30))) (.inl none, (557, gn, e_RF, N1)) ∧ (o = (.inl none, (557, gn, e_RF, N1))))) : e_G X (d + 1) YX11_readsStep 182 [some (.inr (.inr 64)), some (.inl v1), some (.inr (.inr u2))] [] (557, gn, e_RF, M) o := by
  refine e_r_aload_n (pc' := 183) zu2 dX11_readsStep_182 rfl rfl rfl ?_
  refine e_r_iconst (pc' := 184) dX11_readsStep_183 rfl (by decide) ?_
  refine e_r_aload_n (pc' := 185) (by decide) dX11_readsStep_184 rfl rfl rfl ?_
  refine e_r_geti (k := 30) (pc' := 188) cl_11 rfl (Nat.le_of_ble_eq_true rfl) rfl rfl fl_RX11_249 dX11_readsStep_185 rfl ?_
  refine e_r_iast (j9 := 3) (pc' := 189) hu2 ku2 (by decide) (by decide) rfl dX11_readsStep_188 rfl ?_
  refine e_r_aload_n (pc' := 190) (by decide) dX11_readsStep_189 rfl rfl rfl ?_
  refine e_r_bipush (pc' := 192) dX11_readsStep_190 rfl (by decide) ?_
  obtain ⟨N1, he2, h⟩ := h
  refine e_r_callV (a := 64) (av := [.inl 59]) (st := []) mqYX11_sign ml_RX11_169 cl_11 rfl (Nat.le_of_ble_eq_true rfl) (by simp [e_cat]) rfl rfl rfl dX11_readsStep_192 (pc' := 195) rfl he2 ⟨Nat.le_refl _, Nat.le_refl _⟩ hmo ?_
  exact e_r_vret rfl dX11_readsStep_195 h
theorem wp_X11_book_0 {X : e_X} {d gn : Nat} {o : e_O} (M : e_M) (p1 : Int) (hmo : e_mn (557, gn, e_RF, M) o.2) (h : (∃ (r2 : Int) (N1 : e_M), e_E X d YX11_in [.inl p1, .inl 0, .inl ((e_up M 64 0 0) 64 1)] (557, gn, e_RF, (e_up M 64 0 0)) (.inl (some (.inl r2)), (557, gn, e_RF, N1)) ∧ ((r2 = 0 → e_G X (d + 1) YX11_book 24 [some (.inr (.inr 64)), some (.inl p1), none, none, none, none, none] [.inr (.inr 64)] (557, gn, e_RF, N1) o) ∧ (¬ (r2 = 0) → ((p1 ≤ 60 → e_G X (d + 1) YX11_book 29 [some (.inr (.inr 64)), some (.inl p1), none, none, none, none, none] [.inl 0, .inr (.inr 64)] (557, gn, e_RF, N1) o) ∧ (¬ (p1 ≤ 60) → e_G X (d + 1) YX11_book 24 [some (.inr (.inr 64)), some (.inl p1), none, none, none, none, none] [.inr (.inr 64)] (557, gn, e_RF, N1) o)))))) : e_G X (d + 1) YX11_book 0 [some (.inr (.inr 64)), some (.inl p1), none, none, none, none, none] [] (557, gn, e_RF, M) o := by
  refine e_r_aload_n (pc' := 1) (by decide) dX11_book_0 rfl rfl rfl ?_
  refine e_r_iconst (pc' := 2) dX11_book_1 rfl (by decide) ?_
  refine e_r_puti (k := 0) (pc' := 5) cl_11 rfl (Nat.le_of_ble_eq_true rfl) rfl rfl fl_RX11_97 rfl (by decide +kernel) dX11_book_2 rfl ?_
  refine e_r_aload_n (pc' := 6) (by decide) dX11_book_5 rfl rfl rfl ?_
  refine e_r_iload_n (pc' := 7) dX11_book_6 rfl rfl rfl ?_
  refine e_r_iconst (pc' := 8) dX11_book_7 rfl (by decide) ?_
  refine e_r_aload_n (pc' := 9) (by decide) dX11_book_8 rfl rfl rfl ?_
  refine e_r_geti (k := 1) (pc' := 12) cl_11 rfl (Nat.le_of_ble_eq_true rfl) rfl rfl fl_RX11_100 dX11_book_9 rfl ?_
  obtain ⟨r2, N1, he3, h⟩ := h
  refine e_r_callS (av := [.inl p1, .inl 0, .inl ((e_up M 64 0 0) 64 1)]) (st := [.inr (.inr 64)]) mqYX11_in ml_RX11_131 (by simp [e_cat]) rfl rfl rfl dX11_book_12 (pc' := 15) rfl he3 ⟨Nat.le_refl _, Nat.le_refl _⟩ hmo ?_
  obtain ⟨ht4, hf5⟩ := h
  refine e_r_if_eq (tgt := 24) (pc' := 18) dX11_book_15 rfl rfl (fun c => ?_) (fun c => ?_)
  · have h := ht4 c
    exact h
  · have h := hf5 c
    refine e_r_iload_n (pc' := 19) dX11_book_18 rfl rfl rfl ?_
    refine e_r_bipush (pc' := 21) dX11_book_19 rfl (by decide) ?_
    obtain ⟨ht6, hf7⟩ := h
    refine e_r_icmp_le (tgt := 28) (pc' := 24) dX11_book_21 rfl rfl (fun c => ?_) (fun c => ?_)
    · have h := ht6 c
      refine e_r_iconst (pc' := 29) dX11_book_28 rfl (by decide) ?_
      exact h
    · have h := hf7 c
      exact h
theorem wp_X11_book_29 {X : e_X} {d gn : Nat} {o : e_O} (M : e_M) (p1 w0 : Int) (hmo : e_mn (557, gn, e_RF, M) o.2) (h : (∃ (r2 : Int) (N1 : e_M), e_E X d YX11_bad [.inr (.inr 64), .inl w0, .inl 1, .inl 1] (557, gn, e_RF, M) (.inl (some (.inl r2)), (557, gn, e_RF, N1)) ∧ ((r2 = 0 → (∃ N6 : e_M, e_E X d YX11_starts [.inr (.inr 64), .inl p1] (557, gn, e_RF, N1) (.inl none, (557, gn, e_RF, N6)) ∧ e_G X (d + 1) YX11_book 48 [some (.inr (.inr 64)), some (.inl p1), some (.inl 0), some (.inl 0), none, none, none] [] (557, gn, e_RF, N6) o)) ∧ (¬ (r2 = 0) → (o = (.inl (some (.inl 0)), (557, gn, e_RF, N1))))))) : e_G X (d + 1) YX11_book 29 [some (.inr (.inr 64)), some (.inl p1), none, none, none, none, none] [.inl w0, .inr (.inr 64)] (557, gn, e_RF, M) o := by
  refine e_r_iconst (pc' := 30) dX11_book_29 rfl (by decide) ?_
  refine e_r_iconst (pc' := 31) dX11_book_30 rfl (by decide) ?_
  obtain ⟨r2, N1, he3, h⟩ := h
  refine e_r_callV (a := 64) (av := [.inl w0, .inl 1, .inl 1]) (st := []) mqYX11_bad ml_RX11_173 cl_11 rfl (Nat.le_of_ble_eq_true rfl) (by simp [e_cat]) rfl rfl rfl dX11_book_31 (pc' := 34) rfl he3 ⟨Nat.le_refl _, Nat.le_refl _⟩ hmo ?_
  obtain ⟨ht4, hf5⟩ := h
  refine e_r_if_eq (tgt := 39) (pc' := 37) dX11_book_34 rfl rfl (fun c => ?_) (fun c => ?_)
  · have h := ht4 c
    refine e_r_aload_n (pc' := 40) (by decide) dX11_book_39 rfl rfl rfl ?_
    refine e_r_iload_n (pc' := 41) dX11_book_40 rfl rfl rfl ?_
    obtain ⟨N6, he7, h⟩ := h
    refine e_r_callV (a := 64) (av := [.inl p1]) (st := []) mqYX11_starts ml_RX11_177 cl_11 rfl (Nat.le_of_ble_eq_true rfl) (by simp [e_cat]) rfl rfl rfl dX11_book_41 (pc' := 44) rfl he7 ⟨Nat.le_refl _, Nat.le_refl _⟩ hmo ?_
    refine e_r_iconst (pc' := 45) dX11_book_44 rfl (by decide) ?_
    refine e_r_istore_n (pc' := 46) (loc' := [some (.inr (.inr 64)), some (.inl p1), some (.inl 0), none, none, none, none]) dX11_book_45 rfl rfl rfl rfl rfl ?_
    refine e_r_iconst (pc' := 47) dX11_book_46 rfl (by decide) ?_
    refine e_r_istore_n (pc' := 48) (loc' := [some (.inr (.inr 64)), some (.inl p1), some (.inl 0), some (.inl 0), none, none, none]) dX11_book_47 rfl rfl rfl rfl rfl ?_
    exact h
  · have h := hf5 c
    refine e_r_iconst (pc' := 38) dX11_book_37 rfl (by decide) ?_
    exact e_r_iret (ty := .int) rfl (e_nI _) dX11_book_38 h
theorem wp_X11_book_48 {X : e_X} {d gn : Nat} {o : e_O} (M : e_M) (p1 v2 v3 : Int) (hmo : e_mn (557, gn, e_RF, M) o.2) (h : ((¬ (M 64 5) = 0 → e_G X (d + 1) YX11_book 170 [some (.inr (.inr 64)), some (.inl p1), some (.inl v2), some (.inl v3), none, none, none] [] (557, gn, e_RF, M) o) ∧ ((M 64 5) = 0 → (((M 64 2) ≤ (M 64 4) → e_G X (d + 1) YX11_book 170 [some (.inr (.inr 64)), some (.inl p1), some (.inl v2), some (.inl v3), none, none, none] [] (557, gn, e_RF, M) o) ∧ (¬ ((M 64 2) ≤ (M 64 4)) → (∃ (r6 : Int) (N5 : e_M), e_E X d YX11_number [.inr (.inr 64), .inl 0, .inl (e_w ((M 68 0) - 1))] (557, gn, e_RF, M) (.inl (some (.inl r6)), (557, gn, e_RF, N5)) ∧ ((¬ (N5 64 5) = 0 → e_G X (d + 1) YX11_book 110 [some (.inr (.inr 64)), some (.inl p1), some (.inl v2), some (.inl v3), some (.inl (M 64 4)), some (.inl r6), none] [] (557, gn, e_RF, N5) o) ∧ ((N5 64 5) = 0 → (∃ (r11 : Int) (N10 : e_M), e_E X d YX11_has [.inl v3, .inl r6] (557, gn, e_RF, N5) (.inl (some (.inl r11)), (557, gn, e_RF, N10)) ∧ ((r11 = 0 → e_G X (d + 1) YX11_book 110 [some (.inr (.inr 64)), some (.inl p1), some (.inl v2), some (.inl v3), some (.inl (M 64 4)), some (.inl r6), none] [] (557, gn, e_RF, N10) o) ∧ (¬ (r11 = 0) → (∃ N15 : e_M, e_E X d YX11_wrong [.inr (.inr 64), .inl 2, .inl (M 64 4)] (557, gn, e_RF, N10) (.inl none, (557, gn, e_RF, N15)) ∧ e_G X (d + 1) YX11_book 110 [some (.inr (.inr 64)), some (.inl p1), some (.inl v2), some (.inl v3), some (.inl (M 64 4)), some (.inl r6), none] [] (557, gn, e_RF, N15) o)))))))))))) : e_G X (d + 1) YX11_book 48 [some (.inr (.inr 64)), some (.inl p1), some (.inl v2), some (.inl v3), none, none, none] [] (557, gn, e_RF, M) o := by
  refine e_r_aload_n (pc' := 49) (by decide) dX11_book_48 rfl rfl rfl ?_
  refine e_r_geti (k := 5) (pc' := 52) cl_11 rfl (Nat.le_of_ble_eq_true rfl) rfl rfl fl_RX11_113 dX11_book_49 rfl ?_
  obtain ⟨ht1, hf2⟩ := h
  refine e_r_if_ne (tgt := 170) (pc' := 55) dX11_book_52 rfl rfl (fun c => ?_) (fun c => ?_)
  · have h := ht1 c
    exact h
  · have h := hf2 c
    refine e_r_aload_n (pc' := 56) (by decide) dX11_book_55 rfl rfl rfl ?_
    refine e_r_geti (k := 4) (pc' := 59) cl_11 rfl (Nat.le_of_ble_eq_true rfl) rfl rfl fl_RX11_106 dX11_book_56 rfl ?_
    refine e_r_aload_n (pc' := 60) (by decide) dX11_book_59 rfl rfl rfl ?_
    refine e_r_geti (k := 2) (pc' := 63) cl_11 rfl (Nat.le_of_ble_eq_true rfl) rfl rfl fl_RX11_103 dX11_book_60 rfl ?_
    obtain ⟨ht3, hf4⟩ := h
    refine e_r_icmp_ge (tgt := 170) (pc' := 66) dX11_book_63 rfl rfl (fun c => ?_) (fun c => ?_)
    · have h := ht3 c
      exact h
    · have h := hf4 c
      refine e_r_aload_n (pc' := 67) (by decide) dX11_book_66 rfl rfl rfl ?_
      refine e_r_geti (k := 4) (pc' := 70) cl_11 rfl (Nat.le_of_ble_eq_true rfl) rfl rfl fl_RX11_106 dX11_book_67 rfl ?_
      refine e_r_istore (pc' := 72) (loc' := [some (.inr (.inr 64)), some (.inl p1), some (.inl v2), some (.inl v3), some (.inl (M 64 4)), none, none]) dX11_book_70 rfl rfl rfl rfl ?_
      refine e_r_aload_n (pc' := 73) (by decide) dX11_book_72 rfl rfl rfl ?_
      refine e_r_iconst (pc' := 74) dX11_book_73 rfl (by decide) ?_
      refine e_r_aload_n (pc' := 75) (by decide) dX11_book_74 rfl rfl rfl ?_
      refine e_r_getr (k := 12) (q := 68) (pc' := 78) cl_11 rfl (Nat.le_of_ble_eq_true rfl) rfl rfl fl_RX11_23 rfl (Nat.le_of_ble_eq_true rfl) dX11_book_75 rfl ?_
      refine e_r_iconst (pc' := 79) dX11_book_78 rfl (by decide) ?_
      refine e_r_iald (j9 := 0) (pc' := 80) rfl (Nat.le_of_ble_eq_true rfl) (by decide) (by decide) rfl dX11_book_79 rfl ?_
      refine e_r_iconst (pc' := 81) dX11_book_80 rfl (by decide) ?_
      refine e_r_isub (pc' := 82) dX11_book_81 rfl ?_
      obtain ⟨r6, N5, he7, h⟩ := h
      refine e_r_callV (a := 64) (av := [.inl 0, .inl (e_w ((M 68 0) - 1))]) (st := []) mqYX11_number ml_RX11_165 cl_11 rfl (Nat.le_of_ble_eq_true rfl) (by simp [e_cat]) rfl rfl rfl dX11_book_82 (pc' := 85) rfl he7 ⟨Nat.le_refl _, Nat.le_refl _⟩ hmo ?_
      refine e_r_istore (pc' := 87) (loc' := [some (.inr (.inr 64)), some (.inl p1), some (.inl v2), some (.inl v3), some (.inl (M 64 4)), some (.inl r6), none]) dX11_book_85 rfl rfl rfl rfl ?_
      refine e_r_aload_n (pc' := 88) (by decide) dX11_book_87 rfl rfl rfl ?_
      refine e_r_geti (k := 5) (pc' := 91) cl_11 rfl (Nat.le_of_ble_eq_true rfl) rfl rfl fl_RX11_113 dX11_book_88 rfl ?_
      obtain ⟨ht8, hf9⟩ := h
      refine e_r_if_ne (tgt := 110) (pc' := 94) dX11_book_91 rfl rfl (fun c => ?_) (fun c => ?_)
      · have h := ht8 c
        exact h
      · have h := hf9 c
        refine e_r_iload_n (pc' := 95) dX11_book_94 rfl rfl rfl ?_
        refine e_r_iload (pc' := 97) dX11_book_95 rfl rfl ?_
        obtain ⟨r11, N10, he12, h⟩ := h
        refine e_r_callS (av := [.inl v3, .inl r6]) (st := []) mqYX11_has ml_RX11_255 (by simp [e_cat]) rfl rfl rfl dX11_book_97 (pc' := 100) rfl he12 ⟨Nat.le_refl _, Nat.le_refl _⟩ hmo ?_
        obtain ⟨ht13, hf14⟩ := h
        refine e_r_if_eq (tgt := 110) (pc' := 103) dX11_book_100 rfl rfl (fun c => ?_) (fun c => ?_)
        · have h := ht13 c
          exact h
        · have h := hf14 c
          refine e_r_aload_n (pc' := 104) (by decide) dX11_book_103 rfl rfl rfl ?_
          refine e_r_iconst (pc' := 105) dX11_book_104 rfl (by decide) ?_
          refine e_r_iload (pc' := 107) dX11_book_105 rfl rfl ?_
          obtain ⟨N15, he16, h⟩ := h
          refine e_r_callV (a := 64) (av := [.inl 2, .inl (M 64 4)]) (st := []) mqYX11_wrong ml_RX11_126 cl_11 rfl (Nat.le_of_ble_eq_true rfl) (by simp [e_cat]) rfl rfl rfl dX11_book_107 (pc' := 110) rfl he16 ⟨Nat.le_refl _, Nat.le_refl _⟩ hmo ?_
          exact h
theorem wp_X11_book_110 {X : e_X} {d gn : Nat} {o : e_O} (M : e_M) (p1 v2 v3 v4 v5 : Int) (hmo : e_mn (557, gn, e_RF, M) o.2) (h : (∃ (r2 : Int) (N1 : e_M), e_E X d YX11_number [.inr (.inr 64), .inl 0, .inl 140] (557, gn, e_RF, M) (.inl (some (.inl r2)), (557, gn, e_RF, N1)) ∧ (∃ N4 : e_M, e_E X d YX11_sign [.inr (.inr 64), .inl 59] (557, gn, e_RF, N1) (.inl none, (557, gn, e_RF, N4)) ∧ ((¬ (N4 64 5) = 0 → e_G X (d + 1) YX11_book 163 [some (.inr (.inr 64)), some (.inl p1), some (.inl v2), some (.inl v3), some (.inl v4), some (.inl v5), some (.inl r2)] [] (557, gn, e_RF, N4) o) ∧ ((N4 64 5) = 0 → ((0 ≤ v2 ∧ v2 < 6) ∧ ((0 ≤ v2 ∧ v2 < 6) ∧ e_G X (d + 1) YX11_book 163 [some (.inr (.inr 64)), some (.inl p1), some (.inl (e_w (v2 + 1))), some (.inl (e_or v3 (e_shl 1 v5))), some (.inl v4), some (.inl v5), some (.inl r2)] [] (557, gn, e_RF, (e_up (e_up N4 (443 + v2.toNat) 0 v5) (443 + v2.toNat) 1 r2)) o))))))) : e_G X (d + 1) YX11_book 110 [some (.inr (.inr 64)), some (.inl p1), some (.inl v2), some (.inl v3), some (.inl v4), some (.inl v5), none] [] (557, gn, e_RF, M) o := by
  refine e_r_aload_n (pc' := 111) (by decide) dX11_book_110 rfl rfl rfl ?_
  refine e_r_iconst (pc' := 112) dX11_book_111 rfl (by decide) ?_
  refine e_r_sipush (pc' := 115) dX11_book_112 rfl (by decide) ?_
  obtain ⟨r2, N1, he3, h⟩ := h
  refine e_r_callV (a := 64) (av := [.inl 0, .inl 140]) (st := []) mqYX11_number ml_RX11_165 cl_11 rfl (Nat.le_of_ble_eq_true rfl) (by simp [e_cat]) rfl rfl rfl dX11_book_115 (pc' := 118) rfl he3 ⟨Nat.le_refl _, Nat.le_refl _⟩ hmo ?_
  refine e_r_istore (pc' := 120) (loc' := [some (.inr (.inr 64)), some (.inl p1), some (.inl v2), some (.inl v3), some (.inl v4), some (.inl v5), some (.inl r2)]) dX11_book_118 rfl rfl rfl rfl ?_
  refine e_r_aload_n (pc' := 121) (by decide) dX11_book_120 rfl rfl rfl ?_
  refine e_r_bipush (pc' := 123) dX11_book_121 rfl (by decide) ?_
  obtain ⟨N4, he5, h⟩ := h
  refine e_r_callV (a := 64) (av := [.inl 59]) (st := []) mqYX11_sign ml_RX11_169 cl_11 rfl (Nat.le_of_ble_eq_true rfl) (by simp [e_cat]) rfl rfl rfl dX11_book_123 (pc' := 126) rfl he5 ⟨Nat.le_refl _, Nat.le_refl _⟩ hmo ?_
  refine e_r_aload_n (pc' := 127) (by decide) dX11_book_126 rfl rfl rfl ?_
  refine e_r_geti (k := 5) (pc' := 130) cl_11 rfl (Nat.le_of_ble_eq_true rfl) rfl rfl fl_RX11_113 dX11_book_127 rfl ?_
  obtain ⟨ht6, hf7⟩ := h
  refine e_r_if_ne (tgt := 163) (pc' := 133) dX11_book_130 rfl rfl (fun c => ?_) (fun c => ?_)
  · have h := ht6 c
    exact h
  · have h := hf7 c
    refine e_r_iload_n (pc' := 134) dX11_book_133 rfl rfl rfl ?_
    refine e_r_iconst (pc' := 135) dX11_book_134 rfl (by decide) ?_
    refine e_r_iload (pc' := 137) dX11_book_135 rfl rfl ?_
    refine e_r_ishl (pc' := 138) dX11_book_137 rfl ?_
    refine e_r_ior (pc' := 139) dX11_book_138 rfl ?_
    refine e_r_istore_n (pc' := 140) (loc' := [some (.inr (.inr 64)), some (.inl p1), some (.inl v2), some (.inl (e_or v3 (e_shl 1 v5))), some (.inl v4), some (.inl v5), some (.inl r2)]) dX11_book_139 rfl rfl rfl rfl rfl ?_
    refine e_r_aload_n (pc' := 141) (by decide) dX11_book_140 rfl rfl rfl ?_
    refine e_r_getr (k := 26) (q := 442) (pc' := 144) cl_11 rfl (Nat.le_of_ble_eq_true rfl) rfl rfl fl_RX11_61 rfl (Nat.le_of_ble_eq_true rfl) dX11_book_141 rfl ?_
    refine e_r_iload_n (pc' := 145) dX11_book_144 rfl rfl rfl ?_
    obtain ⟨hb8, h⟩ := h
    refine e_r_aldr (q := (443 + v2.toNat)) (pc' := 146) rfl (Nat.le_of_ble_eq_true rfl) hb8.1 hb8.2 rfl (sh_442 hb8.1 hb8.2).2.1 dX11_book_145 rfl ?_
    refine e_r_iconst (pc' := 147) dX11_book_146 rfl (by decide) ?_
    refine e_r_iload (pc' := 149) dX11_book_147 rfl rfl ?_
    refine e_r_iast (j9 := 0) (pc' := 150) (sh_442 hb8.1 hb8.2).1 (sh_442 hb8.1 hb8.2).2.1 (by decide) (by decide) rfl dX11_book_149 rfl ?_
    refine e_r_aload_n (pc' := 151) (by decide) dX11_book_150 rfl rfl rfl ?_
    refine e_r_getr (k := 26) (q := 442) (pc' := 154) cl_11 rfl (Nat.le_of_ble_eq_true rfl) rfl rfl fl_RX11_61 rfl (Nat.le_of_ble_eq_true rfl) dX11_book_151 rfl ?_
    refine e_r_iload_n (pc' := 155) dX11_book_154 rfl rfl rfl ?_
    obtain ⟨hb9, h⟩ := h
    refine e_r_aldr (q := (443 + v2.toNat)) (pc' := 156) rfl (Nat.le_of_ble_eq_true rfl) hb9.1 hb9.2 rfl (sh_442 hb9.1 hb9.2).2.1 dX11_book_155 rfl ?_
    refine e_r_iconst (pc' := 157) dX11_book_156 rfl (by decide) ?_
    refine e_r_iload (pc' := 159) dX11_book_157 rfl rfl ?_
    refine e_r_iast (j9 := 1) (pc' := 160) (sh_442 hb9.1 hb9.2).1 (sh_442 hb9.1 hb9.2).2.1 (by decide) (by decide) rfl dX11_book_159 rfl ?_
    refine e_r_iinc (pc' := 163) (loc' := [some (.inr (.inr 64)), some (.inl p1), some (.inl (e_w (v2 + 1))), some (.inl (e_or v3 (e_shl 1 v5))), some (.inl v4), some (.inl v5), some (.inl r2)]) dX11_book_160 rfl rfl rfl rfl rfl ?_
    exact h
theorem wp_X11_book_163 {X : e_X} {d gn : Nat} {o : e_O} (M : e_M) (p1 v2 v3 v4 v5 v6 : Int) (hmo : e_mn (557, gn, e_RF, M) o.2) (h : (∃ N1 : e_M, e_E X d YX11_blanks [.inr (.inr 64)] (557, gn, e_RF, M) (.inl none, (557, gn, e_RF, N1)) ∧ e_G X (d + 1) YX11_book 48 [some (.inr (.inr 64)), some (.inl p1), some (.inl v2), some (.inl v3), none, none, none] [] (557, gn, e_RF, N1) o)) : e_G X (d + 1) YX11_book 163 [some (.inr (.inr 64)), some (.inl p1), some (.inl v2), some (.inl v3), some (.inl v4), some (.inl v5), some (.inl v6)] [] (557, gn, e_RF, M) o := by
  refine e_r_aload_n (pc' := 164) (by decide) dX11_book_163 rfl rfl rfl ?_
  obtain ⟨N1, he2, h⟩ := h
  refine e_r_callV (a := 64) (av := []) (st := []) mqYX11_blanks ml_RX11_119 cl_11 rfl (Nat.le_of_ble_eq_true rfl) (by simp [e_cat]) rfl rfl rfl dX11_book_164 (pc' := 167) rfl he2 ⟨Nat.le_refl _, Nat.le_refl _⟩ hmo ?_
  refine e_r_goto (pc' := 48) dX11_book_167 rfl ?_
  exact e_forget (m := [true, true, true, true, false, false, false]) h rfl
theorem wp_X11_book_170 {X : e_X} {d gn : Nat} {o : e_O} (M : e_M) (p1 v2 v3 : Int) (hmo : e_mn (557, gn, e_RF, M) o.2) (h : (((M 64 5) = 0 → (∃ N3 : e_M, e_E X d YX11_lays [.inr (.inr 442), .inr (.inr 435), .inl v2] (557, gn, e_RF, (e_up (e_up M 64 3 (-1)) 64 35 v2)) (.inl none, (557, gn, e_RF, N3)) ∧ (o = (.inl (some (.inl v2)), (557, gn, e_RF, N3))))) ∧ (¬ ((M 64 5) = 0) → (∃ (r6 : Int) (N5 : e_M), e_E X d YX11_ends [.inr (.inr 64)] (557, gn, e_RF, M) (.inl (some (.inl r6)), (557, gn, e_RF, N5)) ∧ (o = (.inl (some (.inl r6)), (557, gn, e_RF, N5))))))) : e_G X (d + 1) YX11_book 170 [some (.inr (.inr 64)), some (.inl p1), some (.inl v2), some (.inl v3), none, none, none] [] (557, gn, e_RF, M) o := by
  refine e_r_aload_n (pc' := 171) (by decide) dX11_book_170 rfl rfl rfl ?_
  refine e_r_geti (k := 5) (pc' := 174) cl_11 rfl (Nat.le_of_ble_eq_true rfl) rfl rfl fl_RX11_113 dX11_book_171 rfl ?_
  obtain ⟨ht1, hf2⟩ := h
  refine e_r_if_eq (tgt := 182) (pc' := 177) dX11_book_174 rfl rfl (fun c => ?_) (fun c => ?_)
  · have h := ht1 c
    refine e_r_aload_n (pc' := 183) (by decide) dX11_book_182 rfl rfl rfl ?_
    refine e_r_iconst (pc' := 184) dX11_book_183 rfl (by decide) ?_
    refine e_r_puti (k := 3) (pc' := 187) cl_11 rfl (Nat.le_of_ble_eq_true rfl) rfl rfl fl_RX11_9 rfl (by decide +kernel) dX11_book_184 rfl ?_
    refine e_r_aload_n (pc' := 188) (by decide) dX11_book_187 rfl rfl rfl ?_
    refine e_r_iload_n (pc' := 189) dX11_book_188 rfl rfl rfl ?_
    refine e_r_puti (k := 35) (pc' := 192) cl_11 rfl (Nat.le_of_ble_eq_true rfl) rfl rfl fl_RX11_193 rfl (by decide +kernel) dX11_book_189 rfl ?_
    refine e_r_aload_n (pc' := 193) (by decide) dX11_book_192 rfl rfl rfl ?_
    refine e_r_getr (k := 26) (q := 442) (pc' := 196) cl_11 rfl (Nat.le_of_ble_eq_true rfl) rfl rfl fl_RX11_61 rfl (Nat.le_of_ble_eq_true rfl) dX11_book_193 rfl ?_
    refine e_r_aload_n (pc' := 197) (by decide) dX11_book_196 rfl rfl rfl ?_
    refine e_r_getr (k := 25) (q := 435) (pc' := 200) cl_11 rfl (Nat.le_of_ble_eq_true rfl) rfl rfl fl_RX11_58 rfl (Nat.le_of_ble_eq_true rfl) dX11_book_197 rfl ?_
    refine e_r_iload_n (pc' := 201) dX11_book_200 rfl rfl rfl ?_
    obtain ⟨N3, he4, h⟩ := h
    refine e_r_callS (av := [.inr (.inr 442), .inr (.inr 435), .inl v2]) (st := []) mqYX11_lays ml_RX11_186 (by simp [e_cat]) rfl rfl rfl dX11_book_201 (pc' := 204) rfl he4 ⟨Nat.le_refl _, Nat.le_refl _⟩ hmo ?_
    refine e_r_iload_n (pc' := 205) dX11_book_204 rfl rfl rfl ?_
    exact e_r_iret (ty := .int) rfl (e_nI _) dX11_book_205 h
  · have h := hf2 c
    refine e_r_aload_n (pc' := 178) (by decide) dX11_book_177 rfl rfl rfl ?_
    obtain ⟨r6, N5, he7, h⟩ := h
    refine e_r_callV (a := 64) (av := []) (st := []) mqYX11_ends ml_RX11_183 cl_11 rfl (Nat.le_of_ble_eq_true rfl) (by simp [e_cat]) rfl rfl rfl dX11_book_178 (pc' := 181) rfl he7 ⟨Nat.le_refl _, Nat.le_refl _⟩ hmo ?_
    exact e_r_iret (ty := .int) rfl (e_nI _) dX11_book_181 h
theorem wp_X11_book_24 {X : e_X} {d gn : Nat} {o : e_O} (M : e_M) (p1 : Int) (h : e_G X (d + 1) YX11_book 29 [some (.inr (.inr 64)), some (.inl p1), none, none, none, none, none] [.inl 1, .inr (.inr 64)] (557, gn, e_RF, M) o) : e_G X (d + 1) YX11_book 24 [some (.inr (.inr 64)), some (.inl p1), none, none, none, none, none] [.inr (.inr 64)] (557, gn, e_RF, M) o := by
  refine e_r_iconst (pc' := 25) dX11_book_24 rfl (by decide) ?_
  refine e_r_goto (pc' := 29) dX11_book_25 rfl ?_
  exact h
theorem wp_X11_fault_0 {X : e_X} {d gn : Nat} {o : e_O} (M : e_M) (h : (o = (.inl (some (.inl ((e_up M 64 0 0) 64 3))), (557, gn, e_RF, (e_up M 64 0 0))))) : e_G X d YX11_fault 0 [some (.inr (.inr 64))] [] (557, gn, e_RF, M) o := by
  refine e_r_aload_n (pc' := 1) (by decide) dX11_fault_0 rfl rfl rfl ?_
  refine e_r_iconst (pc' := 2) dX11_fault_1 rfl (by decide) ?_
  refine e_r_puti (k := 0) (pc' := 5) cl_11 rfl (Nat.le_of_ble_eq_true rfl) rfl rfl fl_RX11_97 rfl (by decide +kernel) dX11_fault_2 rfl ?_
  refine e_r_aload_n (pc' := 6) (by decide) dX11_fault_5 rfl rfl rfl ?_
  refine e_r_geti (k := 3) (pc' := 9) cl_11 rfl (Nat.le_of_ble_eq_true rfl) rfl rfl fl_RX11_9 dX11_fault_6 rfl ?_
  exact e_r_iret (ty := .int) rfl (e_nI _) dX11_fault_9 h
theorem wp_X11_isSold_0 {X : e_X} {d gn : Nat} {o : e_O} {q0 : Nat} (hq0 : e_SH q0 = (20, 56)) (kq0 : q0 ≤ 557) (zq0 : q0 ≠ 0) (M : e_M) (p1 : Int) (h : ((0 ≤ (e_w (18 + p1)) ∧ (e_w (18 + p1)) < 56) ∧ (((M q0 (e_w (18 + p1)).toNat) = (-1) → (o = (.inl (some (.inl 0)), (557, gn, e_RF, M)))) ∧ (¬ ((M q0 (e_w (18 + p1)).toNat) = (-1)) → (o = (.inl (some (.inl 1)), (557, gn, e_RF, M))))))) : e_G X d YX11_isSold 0 [some (.inr (.inr q0)), some (.inl p1)] [] (557, gn, e_RF, M) o := by
  refine e_r_aload_n (pc' := 1) zq0 dX11_isSold_0 rfl rfl rfl ?_
  refine e_r_bipush (pc' := 3) dX11_isSold_1 rfl (by decide) ?_
  refine e_r_iload_n (pc' := 4) dX11_isSold_3 rfl rfl rfl ?_
  refine e_r_iadd (pc' := 5) dX11_isSold_4 rfl ?_
  obtain ⟨hb1, h⟩ := h
  refine e_r_iald (j9 := (e_w (18 + p1)).toNat) (pc' := 6) hq0 kq0 hb1.1 hb1.2 rfl dX11_isSold_5 rfl ?_
  refine e_r_iconst (pc' := 7) dX11_isSold_6 rfl (by decide) ?_
  obtain ⟨ht2, hf3⟩ := h
  refine e_r_icmp_eq (tgt := 14) (pc' := 10) dX11_isSold_7 rfl rfl (fun c => ?_) (fun c => ?_)
  · have h := ht2 c
    refine e_r_iconst (pc' := 15) dX11_isSold_14 rfl (by decide) ?_
    exact e_r_iret (ty := .boolean) rfl (e_nZ (by decide)) dX11_isSold_15 h
  · have h := hf3 c
    refine e_r_iconst (pc' := 11) dX11_isSold_10 rfl (by decide) ?_
    refine e_r_goto (pc' := 15) dX11_isSold_11 rfl ?_
    exact e_r_iret (ty := .boolean) rfl (e_nZ (by decide)) dX11_isSold_15 h
theorem wp_X11_isToday_0 {X : e_X} {d gn : Nat} {o : e_O} {q0 : Nat} (hq0 : e_SH q0 = (20, 56)) (kq0 : q0 ≤ 557) (zq0 : q0 ≠ 0) (M : e_M) (p2 : Int) (h : ((0 ≤ (e_w (42 + p2)) ∧ (e_w (42 + p2)) < 56) ∧ ((¬ (M q0 (e_w (42 + p2)).toNat) = 0 → (o = (.inl (some (.inl 0)), (557, gn, e_RF, M)))) ∧ ((M q0 (e_w (42 + p2)).toNat) = 0 → ((0 ≤ (e_w (30 + p2)) ∧ (e_w (30 + p2)) < 56) ∧ ((¬ (M q0 (e_w (30 + p2)).toNat) = (M q0 55) → (o = (.inl (some (.inl 0)), (557, gn, e_RF, M)))) ∧ ((M q0 (e_w (30 + p2)).toNat) = (M q0 55) → (o = (.inl (some (.inl 1)), (557, gn, e_RF, M)))))))))) : e_G X d YX11_isToday 0 [some (.inr (.inr 64)), some (.inr (.inr q0)), some (.inl p2)] [] (557, gn, e_RF, M) o := by
  refine e_r_aload_n (pc' := 1) zq0 dX11_isToday_0 rfl rfl rfl ?_
  refine e_r_bipush (pc' := 3) dX11_isToday_1 rfl (by decide) ?_
  refine e_r_iload_n (pc' := 4) dX11_isToday_3 rfl rfl rfl ?_
  refine e_r_iadd (pc' := 5) dX11_isToday_4 rfl ?_
  obtain ⟨hb1, h⟩ := h
  refine e_r_iald (j9 := (e_w (42 + p2)).toNat) (pc' := 6) hq0 kq0 hb1.1 hb1.2 rfl dX11_isToday_5 rfl ?_
  obtain ⟨ht2, hf3⟩ := h
  refine e_r_if_ne (tgt := 26) (pc' := 9) dX11_isToday_6 rfl rfl (fun c => ?_) (fun c => ?_)
  · have h := ht2 c
    refine e_r_iconst (pc' := 27) dX11_isToday_26 rfl (by decide) ?_
    exact e_r_iret (ty := .boolean) rfl (e_nZ (by decide)) dX11_isToday_27 h
  · have h := hf3 c
    refine e_r_aload_n (pc' := 10) zq0 dX11_isToday_9 rfl rfl rfl ?_
    refine e_r_bipush (pc' := 12) dX11_isToday_10 rfl (by decide) ?_
    refine e_r_iload_n (pc' := 13) dX11_isToday_12 rfl rfl rfl ?_
    refine e_r_iadd (pc' := 14) dX11_isToday_13 rfl ?_
    obtain ⟨hb4, h⟩ := h
    refine e_r_iald (j9 := (e_w (30 + p2)).toNat) (pc' := 15) hq0 kq0 hb4.1 hb4.2 rfl dX11_isToday_14 rfl ?_
    refine e_r_aload_n (pc' := 16) zq0 dX11_isToday_15 rfl rfl rfl ?_
    refine e_r_bipush (pc' := 18) dX11_isToday_16 rfl (by decide) ?_
    refine e_r_iald (j9 := 55) (pc' := 19) hq0 kq0 (by decide) (by decide) rfl dX11_isToday_18 rfl ?_
    obtain ⟨ht5, hf6⟩ := h
    refine e_r_icmp_ne (tgt := 26) (pc' := 22) dX11_isToday_19 rfl rfl (fun c => ?_) (fun c => ?_)
    · have h := ht5 c
      refine e_r_iconst (pc' := 27) dX11_isToday_26 rfl (by decide) ?_
      exact e_r_iret (ty := .boolean) rfl (e_nZ (by decide)) dX11_isToday_27 h
    · have h := hf6 c
      refine e_r_iconst (pc' := 23) dX11_isToday_22 rfl (by decide) ?_
      refine e_r_goto (pc' := 27) dX11_isToday_23 rfl ?_
      exact e_r_iret (ty := .boolean) rfl (e_nZ (by decide)) dX11_isToday_27 h
theorem wp_X11_priceBy_0 {X : e_X} {d gn : Nat} {o : e_O} (M : e_M) (p1 p2 p3 p4 p5 p6 p7 p8 : Int) (hmo : e_mn (557, gn, e_RF, M) o.2) (h : (∃ (r2 : Int) (N1 : e_M), e_E X d YX11_byLaw [.inr (.inr 64)] (557, gn, e_RF, (e_up (e_up (e_up (e_up (e_up (e_up (e_up (e_up M 450 0 p1) 450 1 p2) 450 2 p3) 450 3 p4) 450 4 p5) 450 5 p6) 450 6 p7) 450 7 p8)) (.inl (some (.inl r2)), (557, gn, e_RF, N1)) ∧ (o = (.inl (some (.inl r2)), (557, gn, e_RF, N1))))) : e_G X (d + 1) YX11_priceBy 0 [some (.inr (.inr 64)), some (.inl p1), some (.inl p2), some (.inl p3), some (.inl p4), some (.inl p5), some (.inl p6), some (.inl p7), some (.inl p8)] [] (557, gn, e_RF, M) o := by
  refine e_r_aload_n (pc' := 1) (by decide) dX11_priceBy_0 rfl rfl rfl ?_
  refine e_r_getr (k := 28) (q := 450) (pc' := 4) cl_11 rfl (Nat.le_of_ble_eq_true rfl) rfl rfl fl_RX11_67 rfl (Nat.le_of_ble_eq_true rfl) dX11_priceBy_1 rfl ?_
  refine e_r_iconst (pc' := 5) dX11_priceBy_4 rfl (by decide) ?_
  refine e_r_iload_n (pc' := 6) dX11_priceBy_5 rfl rfl rfl ?_
  refine e_r_iast (j9 := 0) (pc' := 7) rfl (Nat.le_of_ble_eq_true rfl) (by decide) (by decide) rfl dX11_priceBy_6 rfl ?_
  refine e_r_aload_n (pc' := 8) (by decide) dX11_priceBy_7 rfl rfl rfl ?_
  refine e_r_getr (k := 28) (q := 450) (pc' := 11) cl_11 rfl (Nat.le_of_ble_eq_true rfl) rfl rfl fl_RX11_67 rfl (Nat.le_of_ble_eq_true rfl) dX11_priceBy_8 rfl ?_
  refine e_r_iconst (pc' := 12) dX11_priceBy_11 rfl (by decide) ?_
  refine e_r_iload_n (pc' := 13) dX11_priceBy_12 rfl rfl rfl ?_
  refine e_r_iast (j9 := 1) (pc' := 14) rfl (Nat.le_of_ble_eq_true rfl) (by decide) (by decide) rfl dX11_priceBy_13 rfl ?_
  refine e_r_aload_n (pc' := 15) (by decide) dX11_priceBy_14 rfl rfl rfl ?_
  refine e_r_getr (k := 28) (q := 450) (pc' := 18) cl_11 rfl (Nat.le_of_ble_eq_true rfl) rfl rfl fl_RX11_67 rfl (Nat.le_of_ble_eq_true rfl) dX11_priceBy_15 rfl ?_
  refine e_r_iconst (pc' := 19) dX11_priceBy_18 rfl (by decide) ?_
  refine e_r_iload_n (pc' := 20) dX11_priceBy_19 rfl rfl rfl ?_
  refine e_r_iast (j9 := 2) (pc' := 21) rfl (Nat.le_of_ble_eq_true rfl) (by decide) (by decide) rfl dX11_priceBy_20 rfl ?_
  refine e_r_aload_n (pc' := 22) (by decide) dX11_priceBy_21 rfl rfl rfl ?_
  refine e_r_getr (k := 28) (q := 450) (pc' := 25) cl_11 rfl (Nat.le_of_ble_eq_true rfl) rfl rfl fl_RX11_67 rfl (Nat.le_of_ble_eq_true rfl) dX11_priceBy_22 rfl ?_
  refine e_r_iconst (pc' := 26) dX11_priceBy_25 rfl (by decide) ?_
  refine e_r_iload (pc' := 28) dX11_priceBy_26 rfl rfl ?_
  refine e_r_iast (j9 := 3) (pc' := 29) rfl (Nat.le_of_ble_eq_true rfl) (by decide) (by decide) rfl dX11_priceBy_28 rfl ?_
  refine e_r_aload_n (pc' := 30) (by decide) dX11_priceBy_29 rfl rfl rfl ?_
  refine e_r_getr (k := 28) (q := 450) (pc' := 33) cl_11 rfl (Nat.le_of_ble_eq_true rfl) rfl rfl fl_RX11_67 rfl (Nat.le_of_ble_eq_true rfl) dX11_priceBy_30 rfl ?_
  refine e_r_iconst (pc' := 34) dX11_priceBy_33 rfl (by decide) ?_
  refine e_r_iload (pc' := 36) dX11_priceBy_34 rfl rfl ?_
  refine e_r_iast (j9 := 4) (pc' := 37) rfl (Nat.le_of_ble_eq_true rfl) (by decide) (by decide) rfl dX11_priceBy_36 rfl ?_
  refine e_r_aload_n (pc' := 38) (by decide) dX11_priceBy_37 rfl rfl rfl ?_
  refine e_r_getr (k := 28) (q := 450) (pc' := 41) cl_11 rfl (Nat.le_of_ble_eq_true rfl) rfl rfl fl_RX11_67 rfl (Nat.le_of_ble_eq_true rfl) dX11_priceBy_38 rfl ?_
  refine e_r_iconst (pc' := 42) dX11_priceBy_41 rfl (by decide) ?_
  refine e_r_iload (pc' := 44) dX11_priceBy_42 rfl rfl ?_
  refine e_r_iast (j9 := 5) (pc' := 45) rfl (Nat.le_of_ble_eq_true rfl) (by decide) (by decide) rfl dX11_priceBy_44 rfl ?_
  refine e_r_aload_n (pc' := 46) (by decide) dX11_priceBy_45 rfl rfl rfl ?_
  refine e_r_getr (k := 28) (q := 450) (pc' := 49) cl_11 rfl (Nat.le_of_ble_eq_true rfl) rfl rfl fl_RX11_67 rfl (Nat.le_of_ble_eq_true rfl) dX11_priceBy_46 rfl ?_
  refine e_r_bipush (pc' := 51) dX11_priceBy_49 rfl (by decide) ?_
  refine e_r_iload (pc' := 53) dX11_priceBy_51 rfl rfl ?_
  refine e_r_iast (j9 := 6) (pc' := 54) rfl (Nat.le_of_ble_eq_true rfl) (by decide) (by decide) rfl dX11_priceBy_53 rfl ?_
  refine e_r_aload_n (pc' := 55) (by decide) dX11_priceBy_54 rfl rfl rfl ?_
  refine e_r_getr (k := 28) (q := 450) (pc' := 58) cl_11 rfl (Nat.le_of_ble_eq_true rfl) rfl rfl fl_RX11_67 rfl (Nat.le_of_ble_eq_true rfl) dX11_priceBy_55 rfl ?_
  refine e_r_bipush (pc' := 60) dX11_priceBy_58 rfl (by decide) ?_
  refine e_r_iload (pc' := 62) dX11_priceBy_60 rfl rfl ?_
  refine e_r_iast (j9 := 7) (pc' := 63) rfl (Nat.le_of_ble_eq_true rfl) (by decide) (by decide) rfl dX11_priceBy_62 rfl ?_
  refine e_r_aload_n (pc' := 64) (by decide) dX11_priceBy_63 rfl rfl rfl ?_
  obtain ⟨r2, N1, he3, h⟩ := h
  refine e_r_callV (a := 64) (av := []) (st := []) mqYX11_byLaw ml_RX11_258 cl_11 rfl (Nat.le_of_ble_eq_true rfl) (by simp [e_cat]) rfl rfl rfl dX11_priceBy_64 (pc' := 67) rfl he3 ⟨Nat.le_refl _, Nat.le_refl _⟩ hmo ?_
  exact e_r_iret (ty := .int) rfl (e_nI _) dX11_priceBy_67 h
theorem wp_X11_ones_0 {X : e_X} {d gn : Nat} {o : e_O} (M : e_M) (p0 : Int) (h : e_G X d YX11_ones 4 [some (.inl p0), some (.inl 0), some (.inl 0)] [] (557, gn, e_RF, M) o) : e_G X d YX11_ones 0 [some (.inl p0), none, none] [] (557, gn, e_RF, M) o := by
  refine e_r_iconst (pc' := 1) dX11_ones_0 rfl (by decide) ?_
  refine e_r_istore_n (pc' := 2) (loc' := [some (.inl p0), some (.inl 0), none]) dX11_ones_1 rfl rfl rfl rfl rfl ?_
  refine e_r_iconst (pc' := 3) dX11_ones_2 rfl (by decide) ?_
  refine e_r_istore_n (pc' := 4) (loc' := [some (.inl p0), some (.inl 0), some (.inl 0)]) dX11_ones_3 rfl rfl rfl rfl rfl ?_
  exact h
theorem wp_X11_ones_4 {X : e_X} {d gn : Nat} {o : e_O} (M : e_M) (p0 v1 v2 : Int) (h : ((16 ≤ v2 → (o = (.inl (some (.inl v1)), (557, gn, e_RF, M)))) ∧ (¬ (16 ≤ v2) → e_G X d YX11_ones 4 [some (.inl p0), some (.inl (e_w (v1 + (e_and (e_shr p0 v2) 1)))), some (.inl (e_w (v2 + 1)))] [] (557, gn, e_RF, M) o))) : e_G X d YX11_ones 4 [some (.inl p0), some (.inl v1), some (.inl v2)] [] (557, gn, e_RF, M) o := by
  refine e_r_iload_n (pc' := 5) dX11_ones_4 rfl rfl rfl ?_
  refine e_r_bipush (pc' := 7) dX11_ones_5 rfl (by decide) ?_
  obtain ⟨ht1, hf2⟩ := h
  refine e_r_icmp_ge (tgt := 24) (pc' := 10) dX11_ones_7 rfl rfl (fun c => ?_) (fun c => ?_)
  · have h := ht1 c
    refine e_r_iload_n (pc' := 25) dX11_ones_24 rfl rfl rfl ?_
    exact e_r_iret (ty := .int) rfl (e_nI _) dX11_ones_25 h
  · have h := hf2 c
    refine e_r_iload_n (pc' := 11) dX11_ones_10 rfl rfl rfl ?_
    refine e_r_iload_n (pc' := 12) dX11_ones_11 rfl rfl rfl ?_
    refine e_r_iload_n (pc' := 13) dX11_ones_12 rfl rfl rfl ?_
    refine e_r_ishr (pc' := 14) dX11_ones_13 rfl ?_
    refine e_r_iconst (pc' := 15) dX11_ones_14 rfl (by decide) ?_
    refine e_r_iand (pc' := 16) dX11_ones_15 rfl ?_
    refine e_r_iadd (pc' := 17) dX11_ones_16 rfl ?_
    refine e_r_istore_n (pc' := 18) (loc' := [some (.inl p0), some (.inl (e_w (v1 + (e_and (e_shr p0 v2) 1)))), some (.inl v2)]) dX11_ones_17 rfl rfl rfl rfl rfl ?_
    refine e_r_iinc (pc' := 21) (loc' := [some (.inl p0), some (.inl (e_w (v1 + (e_and (e_shr p0 v2) 1)))), some (.inl (e_w (v2 + 1)))]) dX11_ones_18 rfl rfl rfl rfl rfl ?_
    refine e_r_goto (pc' := 4) dX11_ones_21 rfl ?_
    exact h
theorem wp_X11_doneByOthers_0 {X : e_X} {d gn : Nat} {o : e_O} {q0 : Nat} (hq0 : e_SH q0 = (20, 56)) (kq0 : q0 ≤ 557) (zq0 : q0 ≠ 0) (M : e_M) (p2 : Int) (h : e_G X (d + 1) YX11_doneByOthers 5 [some (.inr (.inr 64)), some (.inr (.inr q0)), some (.inl p2), some (.inl 0), some (.inl 0)] [] (557, gn, e_RF, M) o) : e_G X (d + 1) YX11_doneByOthers 0 [some (.inr (.inr 64)), some (.inr (.inr q0)), some (.inl p2), none, none] [] (557, gn, e_RF, M) o := by
  refine e_r_iconst (pc' := 1) dX11_doneByOthers_0 rfl (by decide) ?_
  refine e_r_istore_n (pc' := 2) (loc' := [some (.inr (.inr 64)), some (.inr (.inr q0)), some (.inl p2), some (.inl 0), none]) dX11_doneByOthers_1 rfl rfl rfl rfl rfl ?_
  refine e_r_iconst (pc' := 3) dX11_doneByOthers_2 rfl (by decide) ?_
  refine e_r_istore (pc' := 5) (loc' := [some (.inr (.inr 64)), some (.inr (.inr q0)), some (.inl p2), some (.inl 0), some (.inl 0)]) dX11_doneByOthers_3 rfl rfl rfl rfl ?_
  exact h
theorem wp_X11_doneByOthers_5 {X : e_X} {d gn : Nat} {o : e_O} {q0 : Nat} (hq0 : e_SH q0 = (20, 56)) (kq0 : q0 ≤ 557) (zq0 : q0 ≠ 0) (M : e_M) (p2 v3 v4 : Int) (hmo : e_mn (557, gn, e_RF, M) o.2) (h : (((M 68 0) ≤ v4 → (o = (.inl (some (.inl v3)), (557, gn, e_RF, M)))) ∧ (¬ ((M 68 0) ≤ v4) → ((v4 = p2 → e_G X (d + 1) YX11_doneByOthers 5 [some (.inr (.inr 64)), some (.inr (.inr q0)), some (.inl p2), some (.inl (e_or v3 0)), some (.inl (e_w (v4 + 1)))] [] (557, gn, e_RF, M) o) ∧ (¬ (v4 = p2) → (∃ (r6 : Int) (N5 : e_M), e_E X d YX11_isSold [.inr (.inr q0), .inl v4] (557, gn, e_RF, M) (.inl (some (.inl r6)), (557, gn, e_RF, N5)) ∧ ((¬ r6 = 0 → e_G X (d + 1) YX11_doneByOthers 5 [some (.inr (.inr 64)), some (.inr (.inr q0)), some (.inl p2), some (.inl (e_or v3 0)), some (.inl (e_w (v4 + 1)))] [] (557, gn, e_RF, N5) o) ∧ (r6 = 0 → ((0 ≤ v4 ∧ v4 < 6) ∧ e_G X (d + 1) YX11_doneByOthers 5 [some (.inr (.inr 64)), some (.inr (.inr q0)), some (.inl p2), some (.inl (e_or v3 (N5 72 v4.toNat))), some (.inl (e_w (v4 + 1)))] [] (557, gn, e_RF, N5) o))))))))) : e_G X (d + 1) YX11_doneByOthers 5 [some (.inr (.inr 64)), some (.inr (.inr q0)), some (.inl p2), some (.inl v3), some (.inl v4)] [] (557, gn, e_RF, M) o := by
  refine e_r_iload (pc' := 7) dX11_doneByOthers_5 rfl rfl ?_
  refine e_r_aload_n (pc' := 8) (by decide) dX11_doneByOthers_7 rfl rfl rfl ?_
  refine e_r_getr (k := 12) (q := 68) (pc' := 11) cl_11 rfl (Nat.le_of_ble_eq_true rfl) rfl rfl fl_RX11_23 rfl (Nat.le_of_ble_eq_true rfl) dX11_doneByOthers_8 rfl ?_
  refine e_r_iconst (pc' := 12) dX11_doneByOthers_11 rfl (by decide) ?_
  refine e_r_iald (j9 := 0) (pc' := 13) rfl (Nat.le_of_ble_eq_true rfl) (by decide) (by decide) rfl dX11_doneByOthers_12 rfl ?_
  obtain ⟨ht1, hf2⟩ := h
  refine e_r_icmp_ge (tgt := 51) (pc' := 16) dX11_doneByOthers_13 rfl rfl (fun c => ?_) (fun c => ?_)
  · have h := ht1 c
    refine e_r_iload_n (pc' := 52) dX11_doneByOthers_51 rfl rfl rfl ?_
    exact e_r_iret (ty := .int) rfl (e_nI _) dX11_doneByOthers_52 h
  · have h := hf2 c
    refine e_r_iload_n (pc' := 17) dX11_doneByOthers_16 rfl rfl rfl ?_
    refine e_r_iload (pc' := 19) dX11_doneByOthers_17 rfl rfl ?_
    refine e_r_iload_n (pc' := 20) dX11_doneByOthers_19 rfl rfl rfl ?_
    obtain ⟨ht3, hf4⟩ := h
    refine e_r_icmp_eq (tgt := 42) (pc' := 23) dX11_doneByOthers_20 rfl rfl (fun c => ?_) (fun c => ?_)
    · have h := ht3 c
      refine e_r_iconst (pc' := 43) dX11_doneByOthers_42 rfl (by decide) ?_
      refine e_r_ior (pc' := 44) dX11_doneByOthers_43 rfl ?_
      refine e_r_istore_n (pc' := 45) (loc' := [some (.inr (.inr 64)), some (.inr (.inr q0)), some (.inl p2), some (.inl (e_or v3 0)), some (.inl v4)]) dX11_doneByOthers_44 rfl rfl rfl rfl rfl ?_
      refine e_r_iinc (pc' := 48) (loc' := [some (.inr (.inr 64)), some (.inr (.inr q0)), some (.inl p2), some (.inl (e_or v3 0)), some (.inl (e_w (v4 + 1)))]) dX11_doneByOthers_45 rfl rfl rfl rfl rfl ?_
      refine e_r_goto (pc' := 5) dX11_doneByOthers_48 rfl ?_
      exact h
    · have h := hf4 c
      refine e_r_aload_n (pc' := 24) zq0 dX11_doneByOthers_23 rfl rfl rfl ?_
      refine e_r_iload (pc' := 26) dX11_doneByOthers_24 rfl rfl ?_
      obtain ⟨r6, N5, he7, h⟩ := h
      refine e_r_callS (av := [.inr (.inr q0), .inl v4]) (st := [.inl v3]) mqYX11_isSold ml_RX11_261 (by simp [e_cat]) rfl rfl rfl dX11_doneByOthers_26 (pc' := 29) rfl he7 ⟨Nat.le_refl _, Nat.le_refl _⟩ hmo ?_
      obtain ⟨ht8, hf9⟩ := h
      refine e_r_if_ne (tgt := 42) (pc' := 32) dX11_doneByOthers_29 rfl rfl (fun c => ?_) (fun c => ?_)
      · have h := ht8 c
        refine e_r_iconst (pc' := 43) dX11_doneByOthers_42 rfl (by decide) ?_
        refine e_r_ior (pc' := 44) dX11_doneByOthers_43 rfl ?_
        refine e_r_istore_n (pc' := 45) (loc' := [some (.inr (.inr 64)), some (.inr (.inr q0)), some (.inl p2), some (.inl (e_or v3 0)), some (.inl v4)]) dX11_doneByOthers_44 rfl rfl rfl rfl rfl ?_
        refine e_r_iinc (pc' := 48) (loc' := [some (.inr (.inr 64)), some (.inr (.inr q0)), some (.inl p2), some (.inl (e_or v3 0)), some (.inl (e_w (v4 + 1)))]) dX11_doneByOthers_45 rfl rfl rfl rfl rfl ?_
        refine e_r_goto (pc' := 5) dX11_doneByOthers_48 rfl ?_
        exact h
      · have h := hf9 c
        refine e_r_aload_n (pc' := 33) (by decide) dX11_doneByOthers_32 rfl rfl rfl ?_
        refine e_r_getr (k := 16) (q := 72) (pc' := 36) cl_11 rfl (Nat.le_of_ble_eq_true rfl) rfl rfl fl_RX11_35 rfl (Nat.le_of_ble_eq_true rfl) dX11_doneByOthers_33 rfl ?_
        refine e_r_iload (pc' := 38) dX11_doneByOthers_36 rfl rfl ?_
        obtain ⟨hb10, h⟩ := h
        refine e_r_iald (j9 := v4.toNat) (pc' := 39) rfl (Nat.le_of_ble_eq_true rfl) hb10.1 hb10.2 rfl dX11_doneByOthers_38 rfl ?_
        refine e_r_goto (pc' := 43) dX11_doneByOthers_39 rfl ?_
        refine e_r_ior (pc' := 44) dX11_doneByOthers_43 rfl ?_
        refine e_r_istore_n (pc' := 45) (loc' := [some (.inr (.inr 64)), some (.inr (.inr q0)), some (.inl p2), some (.inl (e_or v3 (N5 72 v4.toNat))), some (.inl v4)]) dX11_doneByOthers_44 rfl rfl rfl rfl rfl ?_
        refine e_r_iinc (pc' := 48) (loc' := [some (.inr (.inr 64)), some (.inr (.inr q0)), some (.inl p2), some (.inl (e_or v3 (N5 72 v4.toNat))), some (.inl (e_w (v4 + 1)))]) dX11_doneByOthers_45 rfl rfl rfl rfl rfl ?_
        refine e_r_goto (pc' := 5) dX11_doneByOthers_48 rfl ?_
        exact h
theorem wp_X11_priceOf_0 {X : e_X} {d gn : Nat} {o : e_O} {q0 : Nat} (hq0 : e_SH q0 = (20, 56)) (kq0 : q0 ≤ 557) (zq0 : q0 ≠ 0) (M : e_M) (p2 : Int) (h : e_G X (d + 1) YX11_priceOf 8 [some (.inr (.inr 64)), some (.inr (.inr q0)), some (.inl p2), some (.inl 0), some (.inl 0), some (.inl 0)] [] (557, gn, e_RF, M) o) : e_G X (d + 1) YX11_priceOf 0 [some (.inr (.inr 64)), some (.inr (.inr q0)), some (.inl p2), none, none, none] [] (557, gn, e_RF, M) o := by
  refine e_r_iconst (pc' := 1) dX11_priceOf_0 rfl (by decide) ?_
  refine e_r_istore_n (pc' := 2) (loc' := [some (.inr (.inr 64)), some (.inr (.inr q0)), some (.inl p2), some (.inl 0), none, none]) dX11_priceOf_1 rfl rfl rfl rfl rfl ?_
  refine e_r_iconst (pc' := 3) dX11_priceOf_2 rfl (by decide) ?_
  refine e_r_istore (pc' := 5) (loc' := [some (.inr (.inr 64)), some (.inr (.inr q0)), some (.inl p2), some (.inl 0), some (.inl 0), none]) dX11_priceOf_3 rfl rfl rfl rfl ?_
  refine e_r_iconst (pc' := 6) dX11_priceOf_5 rfl (by decide) ?_
  refine e_r_istore (pc' := 8) (loc' := [some (.inr (.inr 64)), some (.inr (.inr q0)), some (.inl p2), some (.inl 0), some (.inl 0), some (.inl 0)]) dX11_priceOf_6 rfl rfl rfl rfl ?_
  exact h
theorem wp_X11_priceOf_8 {X : e_X} {d gn : Nat} {o : e_O} {q0 : Nat} (hq0 : e_SH q0 = (20, 56)) (kq0 : q0 ≤ 557) (zq0 : q0 ≠ 0) (M : e_M) (p2 v3 v4 v5 : Int) (hmo : e_mn (557, gn, e_RF, M) o.2) (h : (((M 68 0) ≤ v5 → e_G X (d + 1) YX11_priceOf 51 [some (.inr (.inr 64)), some (.inr (.inr q0)), some (.inl p2), some (.inl v3), some (.inl v4), some (.inl 0)] [] (557, gn, e_RF, M) o) ∧ (¬ ((M 68 0) ≤ v5) → ((v5 = p2 → e_G X (d + 1) YX11_priceOf 8 [some (.inr (.inr 64)), some (.inr (.inr q0)), some (.inl p2), some (.inl (e_w (v3 + 0))), some (.inl v4), some (.inl (e_w (v5 + 1)))] [] (557, gn, e_RF, M) o) ∧ (¬ (v5 = p2) → (∃ (r6 : Int) (N5 : e_M), e_E X d YX11_isSold [.inr (.inr q0), .inl v5] (557, gn, e_RF, M) (.inl (some (.inl r6)), (557, gn, e_RF, N5)) ∧ ((r6 = 0 → e_G X (d + 1) YX11_priceOf 8 [some (.inr (.inr 64)), some (.inr (.inr q0)), some (.inl p2), some (.inl (e_w (v3 + 0))), some (.inl v4), some (.inl (e_w (v5 + 1)))] [] (557, gn, e_RF, N5) o) ∧ (¬ (r6 = 0) → e_G X (d + 1) YX11_priceOf 8 [some (.inr (.inr 64)), some (.inr (.inr q0)), some (.inl p2), some (.inl (e_w (v3 + 1))), some (.inl v4), some (.inl (e_w (v5 + 1)))] [] (557, gn, e_RF, N5) o)))))))) : e_G X (d + 1) YX11_priceOf 8 [some (.inr (.inr 64)), some (.inr (.inr q0)), some (.inl p2), some (.inl v3), some (.inl v4), some (.inl v5)] [] (557, gn, e_RF, M) o := by
  refine e_r_iload (pc' := 10) dX11_priceOf_8 rfl rfl ?_
  refine e_r_aload_n (pc' := 11) (by decide) dX11_priceOf_10 rfl rfl rfl ?_
  refine e_r_getr (k := 12) (q := 68) (pc' := 14) cl_11 rfl (Nat.le_of_ble_eq_true rfl) rfl rfl fl_RX11_23 rfl (Nat.le_of_ble_eq_true rfl) dX11_priceOf_11 rfl ?_
  refine e_r_iconst (pc' := 15) dX11_priceOf_14 rfl (by decide) ?_
  refine e_r_iald (j9 := 0) (pc' := 16) rfl (Nat.le_of_ble_eq_true rfl) (by decide) (by decide) rfl dX11_priceOf_15 rfl ?_
  obtain ⟨ht1, hf2⟩ := h
  refine e_r_icmp_ge (tgt := 48) (pc' := 19) dX11_priceOf_16 rfl rfl (fun c => ?_) (fun c => ?_)
  · have h := ht1 c
    refine e_r_iconst (pc' := 49) dX11_priceOf_48 rfl (by decide) ?_
    refine e_r_istore (pc' := 51) (loc' := [some (.inr (.inr 64)), some (.inr (.inr q0)), some (.inl p2), some (.inl v3), some (.inl v4), some (.inl 0)]) dX11_priceOf_49 rfl rfl rfl rfl ?_
    exact h
  · have h := hf2 c
    refine e_r_iload_n (pc' := 20) dX11_priceOf_19 rfl rfl rfl ?_
    refine e_r_iload (pc' := 22) dX11_priceOf_20 rfl rfl ?_
    refine e_r_iload_n (pc' := 23) dX11_priceOf_22 rfl rfl rfl ?_
    obtain ⟨ht3, hf4⟩ := h
    refine e_r_icmp_eq (tgt := 39) (pc' := 26) dX11_priceOf_23 rfl rfl (fun c => ?_) (fun c => ?_)
    · have h := ht3 c
      refine e_r_iconst (pc' := 40) dX11_priceOf_39 rfl (by decide) ?_
      refine e_r_iadd (pc' := 41) dX11_priceOf_40 rfl ?_
      refine e_r_istore_n (pc' := 42) (loc' := [some (.inr (.inr 64)), some (.inr (.inr q0)), some (.inl p2), some (.inl (e_w (v3 + 0))), some (.inl v4), some (.inl v5)]) dX11_priceOf_41 rfl rfl rfl rfl rfl ?_
      refine e_r_iinc (pc' := 45) (loc' := [some (.inr (.inr 64)), some (.inr (.inr q0)), some (.inl p2), some (.inl (e_w (v3 + 0))), some (.inl v4), some (.inl (e_w (v5 + 1)))]) dX11_priceOf_42 rfl rfl rfl rfl rfl ?_
      refine e_r_goto (pc' := 8) dX11_priceOf_45 rfl ?_
      exact h
    · have h := hf4 c
      refine e_r_aload_n (pc' := 27) zq0 dX11_priceOf_26 rfl rfl rfl ?_
      refine e_r_iload (pc' := 29) dX11_priceOf_27 rfl rfl ?_
      obtain ⟨r6, N5, he7, h⟩ := h
      refine e_r_callS (av := [.inr (.inr q0), .inl v5]) (st := [.inl v3]) mqYX11_isSold ml_RX11_261 (by simp [e_cat]) rfl rfl rfl dX11_priceOf_29 (pc' := 32) rfl he7 ⟨Nat.le_refl _, Nat.le_refl _⟩ hmo ?_
      obtain ⟨ht8, hf9⟩ := h
      refine e_r_if_eq (tgt := 39) (pc' := 35) dX11_priceOf_32 rfl rfl (fun c => ?_) (fun c => ?_)
      · have h := ht8 c
        refine e_r_iconst (pc' := 40) dX11_priceOf_39 rfl (by decide) ?_
        refine e_r_iadd (pc' := 41) dX11_priceOf_40 rfl ?_
        refine e_r_istore_n (pc' := 42) (loc' := [some (.inr (.inr 64)), some (.inr (.inr q0)), some (.inl p2), some (.inl (e_w (v3 + 0))), some (.inl v4), some (.inl v5)]) dX11_priceOf_41 rfl rfl rfl rfl rfl ?_
        refine e_r_iinc (pc' := 45) (loc' := [some (.inr (.inr 64)), some (.inr (.inr q0)), some (.inl p2), some (.inl (e_w (v3 + 0))), some (.inl v4), some (.inl (e_w (v5 + 1)))]) dX11_priceOf_42 rfl rfl rfl rfl rfl ?_
        refine e_r_goto (pc' := 8) dX11_priceOf_45 rfl ?_
        exact h
      · have h := hf9 c
        refine e_r_iconst (pc' := 36) dX11_priceOf_35 rfl (by decide) ?_
        refine e_r_goto (pc' := 40) dX11_priceOf_36 rfl ?_
        refine e_r_iadd (pc' := 41) dX11_priceOf_40 rfl ?_
        refine e_r_istore_n (pc' := 42) (loc' := [some (.inr (.inr 64)), some (.inr (.inr q0)), some (.inl p2), some (.inl (e_w (v3 + 1))), some (.inl v4), some (.inl v5)]) dX11_priceOf_41 rfl rfl rfl rfl rfl ?_
        refine e_r_iinc (pc' := 45) (loc' := [some (.inr (.inr 64)), some (.inr (.inr q0)), some (.inl p2), some (.inl (e_w (v3 + 1))), some (.inl v4), some (.inl (e_w (v5 + 1)))]) dX11_priceOf_42 rfl rfl rfl rfl rfl ?_
        refine e_r_goto (pc' := 8) dX11_priceOf_45 rfl ?_
        exact h
theorem wp_X11_priceOf_51 {X : e_X} {d gn : Nat} {o : e_O} {q0 : Nat} (hq0 : e_SH q0 = (20, 56)) (kq0 : q0 ≤ 557) (zq0 : q0 ≠ 0) (M : e_M) (p2 v3 v4 v5 : Int) (hmo : e_mn (557, gn, e_RF, M) o.2) (h : (((M 68 2) ≤ v5 → ((0 ≤ (e_w (12 + p2)) ∧ (e_w (12 + p2)) < 56) ∧ ((0 ≤ (e_w (0 + p2)) ∧ (e_w (0 + p2)) < 56) ∧ ((0 ≤ p2 ∧ p2 < 6) ∧ ((0 ≤ p2 ∧ p2 < 6) ∧ (∃ (r8 : Int) (N7 : e_M), e_E X d YX11_doneByOthers [.inr (.inr 64), .inr (.inr q0), .inl p2] (557, gn, e_RF, M) (.inl (some (.inl r8)), (557, gn, e_RF, N7)) ∧ (∃ (r11 : Int) (N10 : e_M), e_E X d YX11_ones [.inl (e_and (M 72 p2.toNat) (e_xor r8 (-1)))] (557, gn, e_RF, N7) (.inl (some (.inl r11)), (557, gn, e_RF, N10)) ∧ (∃ (r14 : Int) (N13 : e_M), e_E X d YX11_priceBy [.inr (.inr 64), .inl (M q0 55), .inl v3, .inl (M q0 (e_w (12 + p2)).toNat), .inl (M q0 (e_w (0 + p2)).toNat), .inl (M (81 + p2.toNat) 1), .inl r11, .inl v4, .inl p2] (557, gn, e_RF, N10) (.inl (some (.inl r14)), (557, gn, e_RF, N13)) ∧ (o = (.inl (some (.inl r14)), (557, gn, e_RF, N13))))))))))) ∧ (¬ ((M 68 2) ≤ v5) → ((0 ≤ v5 ∧ v5 < 12) ∧ ((¬ (M (101 + v5.toNat) 0) = p2 → e_G X (d + 1) YX11_priceOf 51 [some (.inr (.inr 64)), some (.inr (.inr q0)), some (.inl p2), some (.inl v3), some (.inl (e_w (v4 + 0))), some (.inl (e_w (v5 + 1)))] [] (557, gn, e_RF, M) o) ∧ ((M (101 + v5.toNat) 0) = p2 → (∃ (r20 : Int) (N19 : e_M), e_E X d YX11_isToday [.inr (.inr 64), .inr (.inr q0), .inl v5] (557, gn, e_RF, M) (.inl (some (.inl r20)), (557, gn, e_RF, N19)) ∧ ((r20 = 0 → e_G X (d + 1) YX11_priceOf 51 [some (.inr (.inr 64)), some (.inr (.inr q0)), some (.inl p2), some (.inl v3), some (.inl (e_w (v4 + 0))), some (.inl (e_w (v5 + 1)))] [] (557, gn, e_RF, N19) o) ∧ (¬ (r20 = 0) → e_G X (d + 1) YX11_priceOf 51 [some (.inr (.inr 64)), some (.inr (.inr q0)), some (.inl p2), some (.inl v3), some (.inl (e_w (v4 + 1))), some (.inl (e_w (v5 + 1)))] [] (557, gn, e_RF, N19) o))))))))) : e_G X (d + 1) YX11_priceOf 51 [some (.inr (.inr 64)), some (.inr (.inr q0)), some (.inl p2), some (.inl v3), some (.inl v4), some (.inl v5)] [] (557, gn, e_RF, M) o := by
  refine e_r_iload (pc' := 53) dX11_priceOf_51 rfl rfl ?_
  refine e_r_aload_n (pc' := 54) (by decide) dX11_priceOf_53 rfl rfl rfl ?_
  refine e_r_getr (k := 12) (q := 68) (pc' := 57) cl_11 rfl (Nat.le_of_ble_eq_true rfl) rfl rfl fl_RX11_23 rfl (Nat.le_of_ble_eq_true rfl) dX11_priceOf_54 rfl ?_
  refine e_r_iconst (pc' := 58) dX11_priceOf_57 rfl (by decide) ?_
  refine e_r_iald (j9 := 2) (pc' := 59) rfl (Nat.le_of_ble_eq_true rfl) (by decide) (by decide) rfl dX11_priceOf_58 rfl ?_
  obtain ⟨ht1, hf2⟩ := h
  refine e_r_icmp_ge (tgt := 101) (pc' := 62) dX11_priceOf_59 rfl rfl (fun c => ?_) (fun c => ?_)
  · have h := ht1 c
    refine e_r_aload_n (pc' := 102) (by decide) dX11_priceOf_101 rfl rfl rfl ?_
    refine e_r_aload_n (pc' := 103) zq0 dX11_priceOf_102 rfl rfl rfl ?_
    refine e_r_bipush (pc' := 105) dX11_priceOf_103 rfl (by decide) ?_
    refine e_r_iald (j9 := 55) (pc' := 106) hq0 kq0 (by decide) (by decide) rfl dX11_priceOf_105 rfl ?_
    refine e_r_iload_n (pc' := 107) dX11_priceOf_106 rfl rfl rfl ?_
    refine e_r_aload_n (pc' := 108) zq0 dX11_priceOf_107 rfl rfl rfl ?_
    refine e_r_bipush (pc' := 110) dX11_priceOf_108 rfl (by decide) ?_
    refine e_r_iload_n (pc' := 111) dX11_priceOf_110 rfl rfl rfl ?_
    refine e_r_iadd (pc' := 112) dX11_priceOf_111 rfl ?_
    obtain ⟨hb3, h⟩ := h
    refine e_r_iald (j9 := (e_w (12 + p2)).toNat) (pc' := 113) hq0 kq0 hb3.1 hb3.2 rfl dX11_priceOf_112 rfl ?_
    refine e_r_aload_n (pc' := 114) zq0 dX11_priceOf_113 rfl rfl rfl ?_
    refine e_r_iconst (pc' := 115) dX11_priceOf_114 rfl (by decide) ?_
    refine e_r_iload_n (pc' := 116) dX11_priceOf_115 rfl rfl rfl ?_
    refine e_r_iadd (pc' := 117) dX11_priceOf_116 rfl ?_
    obtain ⟨hb4, h⟩ := h
    refine e_r_iald (j9 := (e_w (0 + p2)).toNat) (pc' := 118) hq0 kq0 hb4.1 hb4.2 rfl dX11_priceOf_117 rfl ?_
    refine e_r_aload_n (pc' := 119) (by decide) dX11_priceOf_118 rfl rfl rfl ?_
    refine e_r_getr (k := 18) (q := 80) (pc' := 122) cl_11 rfl (Nat.le_of_ble_eq_true rfl) rfl rfl fl_RX11_43 rfl (Nat.le_of_ble_eq_true rfl) dX11_priceOf_119 rfl ?_
    refine e_r_iload_n (pc' := 123) dX11_priceOf_122 rfl rfl rfl ?_
    obtain ⟨hb5, h⟩ := h
    refine e_r_aldr (q := (81 + p2.toNat)) (pc' := 124) rfl (Nat.le_of_ble_eq_true rfl) hb5.1 hb5.2 rfl (sh_80 hb5.1 hb5.2).2.1 dX11_priceOf_123 rfl ?_
    refine e_r_iconst (pc' := 125) dX11_priceOf_124 rfl (by decide) ?_
    refine e_r_iald (j9 := 1) (pc' := 126) (sh_80 hb5.1 hb5.2).1 (sh_80 hb5.1 hb5.2).2.1 (by decide) (by decide) rfl dX11_priceOf_125 rfl ?_
    refine e_r_aload_n (pc' := 127) (by decide) dX11_priceOf_126 rfl rfl rfl ?_
    refine e_r_getr (k := 16) (q := 72) (pc' := 130) cl_11 rfl (Nat.le_of_ble_eq_true rfl) rfl rfl fl_RX11_35 rfl (Nat.le_of_ble_eq_true rfl) dX11_priceOf_127 rfl ?_
    refine e_r_iload_n (pc' := 131) dX11_priceOf_130 rfl rfl rfl ?_
    obtain ⟨hb6, h⟩ := h
    refine e_r_iald (j9 := p2.toNat) (pc' := 132) rfl (Nat.le_of_ble_eq_true rfl) hb6.1 hb6.2 rfl dX11_priceOf_131 rfl ?_
    refine e_r_aload_n (pc' := 133) (by decide) dX11_priceOf_132 rfl rfl rfl ?_
    refine e_r_aload_n (pc' := 134) zq0 dX11_priceOf_133 rfl rfl rfl ?_
    refine e_r_iload_n (pc' := 135) dX11_priceOf_134 rfl rfl rfl ?_
    obtain ⟨r8, N7, he9, h⟩ := h
    refine e_r_callV (a := 64) (av := [.inr (.inr q0), .inl p2]) (st := [.inl (M 72 p2.toNat), .inl (M (81 + p2.toNat) 1), .inl (M q0 (e_w (0 + p2)).toNat), .inl (M q0 (e_w (12 + p2)).toNat), .inl v3, .inl (M q0 55), .inr (.inr 64)]) mqYX11_doneByOthers ml_RX11_268 cl_11 rfl (Nat.le_of_ble_eq_true rfl) (by simp [e_cat]) rfl rfl rfl dX11_priceOf_135 (pc' := 138) rfl he9 ⟨Nat.le_refl _, Nat.le_refl _⟩ hmo ?_
    refine e_r_iconst (pc' := 139) dX11_priceOf_138 rfl (by decide) ?_
    refine e_r_ixor (pc' := 140) dX11_priceOf_139 rfl ?_
    refine e_r_iand (pc' := 141) dX11_priceOf_140 rfl ?_
    obtain ⟨r11, N10, he12, h⟩ := h
    refine e_r_callS (av := [.inl (e_and (M 72 p2.toNat) (e_xor r8 (-1)))]) (st := [.inl (M (81 + p2.toNat) 1), .inl (M q0 (e_w (0 + p2)).toNat), .inl (M q0 (e_w (12 + p2)).toNat), .inl v3, .inl (M q0 55), .inr (.inr 64)]) mqYX11_ones ml_RX11_272 (by simp [e_cat]) rfl rfl rfl dX11_priceOf_141 (pc' := 144) rfl he12 ⟨Nat.le_refl _, Nat.le_refl _⟩ hmo ?_
    refine e_r_iload (pc' := 146) dX11_priceOf_144 rfl rfl ?_
    refine e_r_iload_n (pc' := 147) dX11_priceOf_146 rfl rfl rfl ?_
    obtain ⟨r14, N13, he15, h⟩ := h
    refine e_r_callV (a := 64) (av := [.inl (M q0 55), .inl v3, .inl (M q0 (e_w (12 + p2)).toNat), .inl (M q0 (e_w (0 + p2)).toNat), .inl (M (81 + p2.toNat) 1), .inl r11, .inl v4, .inl p2]) (st := []) mqYX11_priceBy ml_RX11_275 cl_11 rfl (Nat.le_of_ble_eq_true rfl) (by simp [e_cat]) rfl rfl rfl dX11_priceOf_147 (pc' := 150) rfl he15 ⟨Nat.le_refl _, Nat.le_refl _⟩ hmo ?_
    exact e_r_iret (ty := .int) rfl (e_nI _) dX11_priceOf_150 h
  · have h := hf2 c
    refine e_r_iload (pc' := 64) dX11_priceOf_62 rfl rfl ?_
    refine e_r_aload_n (pc' := 65) (by decide) dX11_priceOf_64 rfl rfl rfl ?_
    refine e_r_getr (k := 20) (q := 100) (pc' := 68) cl_11 rfl (Nat.le_of_ble_eq_true rfl) rfl rfl fl_RX11_49 rfl (Nat.le_of_ble_eq_true rfl) dX11_priceOf_65 rfl ?_
    refine e_r_iload (pc' := 70) dX11_priceOf_68 rfl rfl ?_
    obtain ⟨hb16, h⟩ := h
    refine e_r_aldr (q := (101 + v5.toNat)) (pc' := 71) rfl (Nat.le_of_ble_eq_true rfl) hb16.1 hb16.2 rfl (sh_100 hb16.1 hb16.2).2.1 dX11_priceOf_70 rfl ?_
    refine e_r_iconst (pc' := 72) dX11_priceOf_71 rfl (by decide) ?_
    refine e_r_iald (j9 := 0) (pc' := 73) (sh_100 hb16.1 hb16.2).1 (sh_100 hb16.1 hb16.2).2.1 (by decide) (by decide) rfl dX11_priceOf_72 rfl ?_
    refine e_r_iload_n (pc' := 74) dX11_priceOf_73 rfl rfl rfl ?_
    obtain ⟨ht17, hf18⟩ := h
    refine e_r_icmp_ne (tgt := 91) (pc' := 77) dX11_priceOf_74 rfl rfl (fun c => ?_) (fun c => ?_)
    · have h := ht17 c
      refine e_r_iconst (pc' := 92) dX11_priceOf_91 rfl (by decide) ?_
      refine e_r_iadd (pc' := 93) dX11_priceOf_92 rfl ?_
      refine e_r_istore (pc' := 95) (loc' := [some (.inr (.inr 64)), some (.inr (.inr q0)), some (.inl p2), some (.inl v3), some (.inl (e_w (v4 + 0))), some (.inl v5)]) dX11_priceOf_93 rfl rfl rfl rfl ?_
      refine e_r_iinc (pc' := 98) (loc' := [some (.inr (.inr 64)), some (.inr (.inr q0)), some (.inl p2), some (.inl v3), some (.inl (e_w (v4 + 0))), some (.inl (e_w (v5 + 1)))]) dX11_priceOf_95 rfl rfl rfl rfl rfl ?_
      refine e_r_goto (pc' := 51) dX11_priceOf_98 rfl ?_
      exact h
    · have h := hf18 c
      refine e_r_aload_n (pc' := 78) (by decide) dX11_priceOf_77 rfl rfl rfl ?_
      refine e_r_aload_n (pc' := 79) zq0 dX11_priceOf_78 rfl rfl rfl ?_
      refine e_r_iload (pc' := 81) dX11_priceOf_79 rfl rfl ?_
      obtain ⟨r20, N19, he21, h⟩ := h
      refine e_r_callV (a := 64) (av := [.inr (.inr q0), .inl v5]) (st := [.inl v4]) mqYX11_isToday ml_RX11_265 cl_11 rfl (Nat.le_of_ble_eq_true rfl) (by simp [e_cat]) rfl rfl rfl dX11_priceOf_81 (pc' := 84) rfl he21 ⟨Nat.le_refl _, Nat.le_refl _⟩ hmo ?_
      obtain ⟨ht22, hf23⟩ := h
      refine e_r_if_eq (tgt := 91) (pc' := 87) dX11_priceOf_84 rfl rfl (fun c => ?_) (fun c => ?_)
      · have h := ht22 c
        refine e_r_iconst (pc' := 92) dX11_priceOf_91 rfl (by decide) ?_
        refine e_r_iadd (pc' := 93) dX11_priceOf_92 rfl ?_
        refine e_r_istore (pc' := 95) (loc' := [some (.inr (.inr 64)), some (.inr (.inr q0)), some (.inl p2), some (.inl v3), some (.inl (e_w (v4 + 0))), some (.inl v5)]) dX11_priceOf_93 rfl rfl rfl rfl ?_
        refine e_r_iinc (pc' := 98) (loc' := [some (.inr (.inr 64)), some (.inr (.inr q0)), some (.inl p2), some (.inl v3), some (.inl (e_w (v4 + 0))), some (.inl (e_w (v5 + 1)))]) dX11_priceOf_95 rfl rfl rfl rfl rfl ?_
        refine e_r_goto (pc' := 51) dX11_priceOf_98 rfl ?_
        exact h
      · have h := hf23 c
        refine e_r_iconst (pc' := 88) dX11_priceOf_87 rfl (by decide) ?_
        refine e_r_goto (pc' := 92) dX11_priceOf_88 rfl ?_
        refine e_r_iadd (pc' := 93) dX11_priceOf_92 rfl ?_
        refine e_r_istore (pc' := 95) (loc' := [some (.inr (.inr 64)), some (.inr (.inr q0)), some (.inl p2), some (.inl v3), some (.inl (e_w (v4 + 1))), some (.inl v5)]) dX11_priceOf_93 rfl rfl rfl rfl ?_
        refine e_r_iinc (pc' := 98) (loc' := [some (.inr (.inr 64)), some (.inr (.inr q0)), some (.inl p2), some (.inl v3), some (.inl (e_w (v4 + 1))), some (.inl (e_w (v5 + 1)))]) dX11_priceOf_95 rfl rfl rfl rfl rfl ?_
        refine e_r_goto (pc' := 51) dX11_priceOf_98 rfl ?_
        exact h
theorem wp_X11_canBuy_0 {X : e_X} {d gn : Nat} {o : e_O} {q0 : Nat} (hq0 : e_SH q0 = (20, 56)) (kq0 : q0 ≤ 557) (zq0 : q0 ≠ 0) (M : e_M) (p2 : Int) (hmo : e_mn (557, gn, e_RF, M) o.2) (h : (∃ (r2 : Int) (N1 : e_M), e_E X d YX11_isSold [.inr (.inr q0), .inl p2] (557, gn, e_RF, M) (.inl (some (.inl r2)), (557, gn, e_RF, N1)) ∧ ((¬ r2 = 0 → (o = (.inl (some (.inl 0)), (557, gn, e_RF, N1)))) ∧ (r2 = 0 → ((0 ≤ (e_w (0 + p2)) ∧ (e_w (0 + p2)) < 56) ∧ (∃ (r8 : Int) (N7 : e_M), e_E X d YX11_priceOf [.inr (.inr 64), .inr (.inr q0), .inl p2] (557, gn, e_RF, N1) (.inl (some (.inl r8)), (557, gn, e_RF, N7)) ∧ (((N1 q0 (e_w (0 + p2)).toNat) < r8 → (o = (.inl (some (.inl 0)), (557, gn, e_RF, N7)))) ∧ (¬ ((N1 q0 (e_w (0 + p2)).toNat) < r8) → (o = (.inl (some (.inl 1)), (557, gn, e_RF, N7))))))))))) : e_G X (d + 1) YX11_canBuy 0 [some (.inr (.inr 64)), some (.inr (.inr q0)), some (.inl p2)] [] (557, gn, e_RF, M) o := by
  refine e_r_aload_n (pc' := 1) zq0 dX11_canBuy_0 rfl rfl rfl ?_
  refine e_r_iload_n (pc' := 2) dX11_canBuy_1 rfl rfl rfl ?_
  obtain ⟨r2, N1, he3, h⟩ := h
  refine e_r_callS (av := [.inr (.inr q0), .inl p2]) (st := []) mqYX11_isSold ml_RX11_261 (by simp [e_cat]) rfl rfl rfl dX11_canBuy_2 (pc' := 5) rfl he3 ⟨Nat.le_refl _, Nat.le_refl _⟩ hmo ?_
  obtain ⟨ht4, hf5⟩ := h
  refine e_r_if_ne (tgt := 26) (pc' := 8) dX11_canBuy_5 rfl rfl (fun c => ?_) (fun c => ?_)
  · have h := ht4 c
    refine e_r_iconst (pc' := 27) dX11_canBuy_26 rfl (by decide) ?_
    exact e_r_iret (ty := .boolean) rfl (e_nZ (by decide)) dX11_canBuy_27 h
  · have h := hf5 c
    refine e_r_aload_n (pc' := 9) zq0 dX11_canBuy_8 rfl rfl rfl ?_
    refine e_r_iconst (pc' := 10) dX11_canBuy_9 rfl (by decide) ?_
    refine e_r_iload_n (pc' := 11) dX11_canBuy_10 rfl rfl rfl ?_
    refine e_r_iadd (pc' := 12) dX11_canBuy_11 rfl ?_
    obtain ⟨hb6, h⟩ := h
    refine e_r_iald (j9 := (e_w (0 + p2)).toNat) (pc' := 13) hq0 kq0 hb6.1 hb6.2 rfl dX11_canBuy_12 rfl ?_
    refine e_r_aload_n (pc' := 14) (by decide) dX11_canBuy_13 rfl rfl rfl ?_
    refine e_r_aload_n (pc' := 15) zq0 dX11_canBuy_14 rfl rfl rfl ?_
    refine e_r_iload_n (pc' := 16) dX11_canBuy_15 rfl rfl rfl ?_
    obtain ⟨r8, N7, he9, h⟩ := h
    refine e_r_callV (a := 64) (av := [.inr (.inr q0), .inl p2]) (st := [.inl (N1 q0 (e_w (0 + p2)).toNat)]) mqYX11_priceOf ml_RX11_279 cl_11 rfl (Nat.le_of_ble_eq_true rfl) (by simp [e_cat]) rfl rfl rfl dX11_canBuy_16 (pc' := 19) rfl he9 ⟨Nat.le_refl _, Nat.le_refl _⟩ hmo ?_
    obtain ⟨ht10, hf11⟩ := h
    refine e_r_icmp_lt (tgt := 26) (pc' := 22) dX11_canBuy_19 rfl rfl (fun c => ?_) (fun c => ?_)
    · have h := ht10 c
      refine e_r_iconst (pc' := 27) dX11_canBuy_26 rfl (by decide) ?_
      exact e_r_iret (ty := .boolean) rfl (e_nZ (by decide)) dX11_canBuy_27 h
    · have h := hf11 c
      refine e_r_iconst (pc' := 23) dX11_canBuy_22 rfl (by decide) ?_
      refine e_r_goto (pc' := 27) dX11_canBuy_23 rfl ?_
      exact e_r_iret (ty := .boolean) rfl (e_nZ (by decide)) dX11_canBuy_27 h
theorem wp_X11_buys_0 {X : e_X} {d gn : Nat} {o : e_O} {q0 : Nat} (hq0 : e_SH q0 = (20, 56)) (kq0 : q0 ≤ 557) (zq0 : q0 ≠ 0) (M : e_M) (p2 : Int) (hmo : e_mn (557, gn, e_RF, M) o.2) (h : (∃ (r2 : Int) (N1 : e_M), e_E X d YX11_canBuy [.inr (.inr 64), .inr (.inr q0), .inl p2] (557, gn, e_RF, M) (.inl (some (.inl r2)), (557, gn, e_RF, N1)) ∧ ((¬ r2 = 0 → (∃ (r7 : Int) (N6 : e_M), e_E X d YX11_priceOf [.inr (.inr 64), .inr (.inr q0), .inl p2] (557, gn, e_RF, N1) (.inl (some (.inl r7)), (557, gn, e_RF, N6)) ∧ ((0 ≤ (e_w (18 + p2)) ∧ (e_w (18 + p2)) < 56) ∧ ((0 ≤ (e_w (0 + p2)) ∧ (e_w (0 + p2)) < 56) ∧ ((0 ≤ (e_w (18 + p2)) ∧ (e_w (18 + p2)) < 56) ∧ ((0 ≤ (e_w (0 + p2)) ∧ (e_w (0 + p2)) < 56) ∧ (o = (.inl (some (.inl 1)), (557, gn, e_RF, (e_up (e_up N6 q0 (e_w (18 + p2)).toNat r7) q0 (e_w (0 + p2)).toNat (e_w (((e_up N6 q0 (e_w (18 + p2)).toNat r7) q0 (e_w (0 + p2)).toNat) - ((e_up N6 q0 (e_w (18 + p2)).toNat r7) q0 (e_w (18 + p2)).toNat))))))))))))) ∧ (r2 = 0 → (o = (.inl (some (.inl 0)), (557, gn, e_RF, N1))))))) : e_G X (d + 1) YX11_buys 0 [some (.inr (.inr 64)), some (.inr (.inr q0)), some (.inl p2)] [] (557, gn, e_RF, M) o := by
  refine e_r_aload_n (pc' := 1) (by decide) dX11_buys_0 rfl rfl rfl ?_
  refine e_r_aload_n (pc' := 2) zq0 dX11_buys_1 rfl rfl rfl ?_
  refine e_r_iload_n (pc' := 3) dX11_buys_2 rfl rfl rfl ?_
  obtain ⟨r2, N1, he3, h⟩ := h
  refine e_r_callV (a := 64) (av := [.inr (.inr q0), .inl p2]) (st := []) mqYX11_canBuy ml_RX11_282 cl_11 rfl (Nat.le_of_ble_eq_true rfl) (by simp [e_cat]) rfl rfl rfl dX11_buys_3 (pc' := 6) rfl he3 ⟨Nat.le_refl _, Nat.le_refl _⟩ hmo ?_
  obtain ⟨ht4, hf5⟩ := h
  refine e_r_if_ne (tgt := 11) (pc' := 9) dX11_buys_6 rfl rfl (fun c => ?_) (fun c => ?_)
  · have h := ht4 c
    refine e_r_aload_n (pc' := 12) zq0 dX11_buys_11 rfl rfl rfl ?_
    refine e_r_bipush (pc' := 14) dX11_buys_12 rfl (by decide) ?_
    refine e_r_iload_n (pc' := 15) dX11_buys_14 rfl rfl rfl ?_
    refine e_r_iadd (pc' := 16) dX11_buys_15 rfl ?_
    refine e_r_aload_n (pc' := 17) (by decide) dX11_buys_16 rfl rfl rfl ?_
    refine e_r_aload_n (pc' := 18) zq0 dX11_buys_17 rfl rfl rfl ?_
    refine e_r_iload_n (pc' := 19) dX11_buys_18 rfl rfl rfl ?_
    obtain ⟨r7, N6, he8, h⟩ := h
    refine e_r_callV (a := 64) (av := [.inr (.inr q0), .inl p2]) (st := [.inl (e_w (18 + p2)), .inr (.inr q0)]) mqYX11_priceOf ml_RX11_279 cl_11 rfl (Nat.le_of_ble_eq_true rfl) (by simp [e_cat]) rfl rfl rfl dX11_buys_19 (pc' := 22) rfl he8 ⟨Nat.le_refl _, Nat.le_refl _⟩ hmo ?_
    obtain ⟨hb9, h⟩ := h
    refine e_r_iast (j9 := (e_w (18 + p2)).toNat) (pc' := 23) hq0 kq0 hb9.1 hb9.2 rfl dX11_buys_22 rfl ?_
    refine e_r_aload_n (pc' := 24) zq0 dX11_buys_23 rfl rfl rfl ?_
    refine e_r_iconst (pc' := 25) dX11_buys_24 rfl (by decide) ?_
    refine e_r_iload_n (pc' := 26) dX11_buys_25 rfl rfl rfl ?_
    refine e_r_iadd (pc' := 27) dX11_buys_26 rfl ?_
    refine e_r_dup2 (pc' := 28) rfl rfl dX11_buys_27 rfl ?_
    obtain ⟨hb10, h⟩ := h
    refine e_r_iald (j9 := (e_w (0 + p2)).toNat) (pc' := 29) hq0 kq0 hb10.1 hb10.2 rfl dX11_buys_28 rfl ?_
    refine e_r_aload_n (pc' := 30) zq0 dX11_buys_29 rfl rfl rfl ?_
    refine e_r_bipush (pc' := 32) dX11_buys_30 rfl (by decide) ?_
    refine e_r_iload_n (pc' := 33) dX11_buys_32 rfl rfl rfl ?_
    refine e_r_iadd (pc' := 34) dX11_buys_33 rfl ?_
    obtain ⟨hb11, h⟩ := h
    refine e_r_iald (j9 := (e_w (18 + p2)).toNat) (pc' := 35) hq0 kq0 hb11.1 hb11.2 rfl dX11_buys_34 rfl ?_
    refine e_r_isub (pc' := 36) dX11_buys_35 rfl ?_
    obtain ⟨hb12, h⟩ := h
    refine e_r_iast (j9 := (e_w (0 + p2)).toNat) (pc' := 37) hq0 kq0 hb12.1 hb12.2 rfl dX11_buys_36 rfl ?_
    refine e_r_iconst (pc' := 38) dX11_buys_37 rfl (by decide) ?_
    exact e_r_iret (ty := .boolean) rfl (e_nZ (by decide)) dX11_buys_38 h
  · have h := hf5 c
    refine e_r_iconst (pc' := 10) dX11_buys_9 rfl (by decide) ?_
    exact e_r_iret (ty := .boolean) rfl (e_nZ (by decide)) dX11_buys_10 h
theorem wp_X11_sells_0 {X : e_X} {d gn : Nat} {o : e_O} {q0 : Nat} (hq0 : e_SH q0 = (20, 56)) (kq0 : q0 ≤ 557) (zq0 : q0 ≠ 0) (M : e_M) (p1 : Int) (hmo : e_mn (557, gn, e_RF, M) o.2) (h : (∃ (r2 : Int) (N1 : e_M), e_E X d YX11_isSold [.inr (.inr q0), .inl p1] (557, gn, e_RF, M) (.inl (some (.inl r2)), (557, gn, e_RF, N1)) ∧ ((¬ r2 = 0 → ((0 ≤ (e_w (0 + p1)) ∧ (e_w (0 + p1)) < 56) ∧ ((0 ≤ (e_w (18 + p1)) ∧ (e_w (18 + p1)) < 56) ∧ ((0 ≤ (e_w (0 + p1)) ∧ (e_w (0 + p1)) < 56) ∧ ((0 ≤ (e_w (18 + p1)) ∧ (e_w (18 + p1)) < 56) ∧ (o = (.inl (some (.inl 1)), (557, gn, e_RF, (e_up (e_up N1 q0 (e_w (0 + p1)).toNat (e_w ((N1 q0 (e_w (0 + p1)).toNat) + (e_w (Int.tdiv (N1 q0 (e_w (18 + p1)).toNat) 2))))) q0 (e_w (18 + p1)).toNat (-1)))))))))) ∧ (r2 = 0 → (o = (.inl (some (.inl 0)), (557, gn, e_RF, N1))))))) : e_G X (d + 1) YX11_sells 0 [some (.inr (.inr q0)), some (.inl p1)] [] (557, gn, e_RF, M) o := by
  refine e_r_aload_n (pc' := 1) zq0 dX11_sells_0 rfl rfl rfl ?_
  refine e_r_iload_n (pc' := 2) dX11_sells_1 rfl rfl rfl ?_
  obtain ⟨r2, N1, he3, h⟩ := h
  refine e_r_callS (av := [.inr (.inr q0), .inl p1]) (st := []) mqYX11_isSold ml_RX11_261 (by simp [e_cat]) rfl rfl rfl dX11_sells_2 (pc' := 5) rfl he3 ⟨Nat.le_refl _, Nat.le_refl _⟩ hmo ?_
  obtain ⟨ht4, hf5⟩ := h
  refine e_r_if_ne (tgt := 10) (pc' := 8) dX11_sells_5 rfl rfl (fun c => ?_) (fun c => ?_)
  · have h := ht4 c
    refine e_r_aload_n (pc' := 11) zq0 dX11_sells_10 rfl rfl rfl ?_
    refine e_r_iconst (pc' := 12) dX11_sells_11 rfl (by decide) ?_
    refine e_r_iload_n (pc' := 13) dX11_sells_12 rfl rfl rfl ?_
    refine e_r_iadd (pc' := 14) dX11_sells_13 rfl ?_
    refine e_r_dup2 (pc' := 15) rfl rfl dX11_sells_14 rfl ?_
    obtain ⟨hb6, h⟩ := h
    refine e_r_iald (j9 := (e_w (0 + p1)).toNat) (pc' := 16) hq0 kq0 hb6.1 hb6.2 rfl dX11_sells_15 rfl ?_
    refine e_r_aload_n (pc' := 17) zq0 dX11_sells_16 rfl rfl rfl ?_
    refine e_r_bipush (pc' := 19) dX11_sells_17 rfl (by decide) ?_
    refine e_r_iload_n (pc' := 20) dX11_sells_19 rfl rfl rfl ?_
    refine e_r_iadd (pc' := 21) dX11_sells_20 rfl ?_
    obtain ⟨hb7, h⟩ := h
    refine e_r_iald (j9 := (e_w (18 + p1)).toNat) (pc' := 22) hq0 kq0 hb7.1 hb7.2 rfl dX11_sells_21 rfl ?_
    refine e_r_iconst (pc' := 23) dX11_sells_22 rfl (by decide) ?_
    refine e_r_idiv (pc' := 24) (by decide) dX11_sells_23 rfl ?_
    refine e_r_iadd (pc' := 25) dX11_sells_24 rfl ?_
    obtain ⟨hb8, h⟩ := h
    refine e_r_iast (j9 := (e_w (0 + p1)).toNat) (pc' := 26) hq0 kq0 hb8.1 hb8.2 rfl dX11_sells_25 rfl ?_
    refine e_r_aload_n (pc' := 27) zq0 dX11_sells_26 rfl rfl rfl ?_
    refine e_r_bipush (pc' := 29) dX11_sells_27 rfl (by decide) ?_
    refine e_r_iload_n (pc' := 30) dX11_sells_29 rfl rfl rfl ?_
    refine e_r_iadd (pc' := 31) dX11_sells_30 rfl ?_
    refine e_r_iconst (pc' := 32) dX11_sells_31 rfl (by decide) ?_
    obtain ⟨hb9, h⟩ := h
    refine e_r_iast (j9 := (e_w (18 + p1)).toNat) (pc' := 33) hq0 kq0 hb9.1 hb9.2 rfl dX11_sells_32 rfl ?_
    refine e_r_iconst (pc' := 34) dX11_sells_33 rfl (by decide) ?_
    exact e_r_iret (ty := .boolean) rfl (e_nZ (by decide)) dX11_sells_34 h
  · have h := hf5 c
    refine e_r_iconst (pc' := 9) dX11_sells_8 rfl (by decide) ?_
    exact e_r_iret (ty := .boolean) rfl (e_nZ (by decide)) dX11_sells_9 h
theorem wp_X11_leftIn_0 {X : e_X} {d gn : Nat} {o : e_O} {q0 : Nat} (hq0 : e_SH q0 = (20, 56)) (kq0 : q0 ≤ 557) (zq0 : q0 ≠ 0) (M : e_M) (h : e_G X (d + 1) YX11_leftIn 4 [some (.inr (.inr 64)), some (.inr (.inr q0)), some (.inl 0), some (.inl 0)] [] (557, gn, e_RF, M) o) : e_G X (d + 1) YX11_leftIn 0 [some (.inr (.inr 64)), some (.inr (.inr q0)), none, none] [] (557, gn, e_RF, M) o := by
  refine e_r_iconst (pc' := 1) dX11_leftIn_0 rfl (by decide) ?_
  refine e_r_istore_n (pc' := 2) (loc' := [some (.inr (.inr 64)), some (.inr (.inr q0)), some (.inl 0), none]) dX11_leftIn_1 rfl rfl rfl rfl rfl ?_
  refine e_r_iconst (pc' := 3) dX11_leftIn_2 rfl (by decide) ?_
  refine e_r_istore_n (pc' := 4) (loc' := [some (.inr (.inr 64)), some (.inr (.inr q0)), some (.inl 0), some (.inl 0)]) dX11_leftIn_3 rfl rfl rfl rfl rfl ?_
  exact h
theorem wp_X11_leftIn_4 {X : e_X} {d gn : Nat} {o : e_O} {q0 : Nat} (hq0 : e_SH q0 = (20, 56)) (kq0 : q0 ≤ 557) (zq0 : q0 ≠ 0) (M : e_M) (v2 v3 : Int) (hmo : e_mn (557, gn, e_RF, M) o.2) (h : (((M 68 0) ≤ v3 → (o = (.inl (some (.inl (e_and (e_w ((e_shl 1 (M 68 1)) - 1)) (e_xor v2 (-1))))), (557, gn, e_RF, M)))) ∧ (¬ ((M 68 0) ≤ v3) → (∃ (r4 : Int) (N3 : e_M), e_E X d YX11_isSold [.inr (.inr q0), .inl v3] (557, gn, e_RF, M) (.inl (some (.inl r4)), (557, gn, e_RF, N3)) ∧ ((r4 = 0 → ((0 ≤ v3 ∧ v3 < 6) ∧ e_G X (d + 1) YX11_leftIn 4 [some (.inr (.inr 64)), some (.inr (.inr q0)), some (.inl (e_or v2 (N3 72 v3.toNat))), some (.inl (e_w (v3 + 1)))] [] (557, gn, e_RF, N3) o)) ∧ (¬ (r4 = 0) → e_G X (d + 1) YX11_leftIn 4 [some (.inr (.inr 64)), some (.inr (.inr q0)), some (.inl (e_or v2 0)), some (.inl (e_w (v3 + 1)))] [] (557, gn, e_RF, N3) o)))))) : e_G X (d + 1) YX11_leftIn 4 [some (.inr (.inr 64)), some (.inr (.inr q0)), some (.inl v2), some (.inl v3)] [] (557, gn, e_RF, M) o := by
  refine e_r_iload_n (pc' := 5) dX11_leftIn_4 rfl rfl rfl ?_
  refine e_r_aload_n (pc' := 6) (by decide) dX11_leftIn_5 rfl rfl rfl ?_
  refine e_r_getr (k := 12) (q := 68) (pc' := 9) cl_11 rfl (Nat.le_of_ble_eq_true rfl) rfl rfl fl_RX11_23 rfl (Nat.le_of_ble_eq_true rfl) dX11_leftIn_6 rfl ?_
  refine e_r_iconst (pc' := 10) dX11_leftIn_9 rfl (by decide) ?_
  refine e_r_iald (j9 := 0) (pc' := 11) rfl (Nat.le_of_ble_eq_true rfl) (by decide) (by decide) rfl dX11_leftIn_10 rfl ?_
  obtain ⟨ht1, hf2⟩ := h
  refine e_r_icmp_ge (tgt := 41) (pc' := 14) dX11_leftIn_11 rfl rfl (fun c => ?_) (fun c => ?_)
  · have h := ht1 c
    refine e_r_iconst (pc' := 42) dX11_leftIn_41 rfl (by decide) ?_
    refine e_r_aload_n (pc' := 43) (by decide) dX11_leftIn_42 rfl rfl rfl ?_
    refine e_r_getr (k := 12) (q := 68) (pc' := 46) cl_11 rfl (Nat.le_of_ble_eq_true rfl) rfl rfl fl_RX11_23 rfl (Nat.le_of_ble_eq_true rfl) dX11_leftIn_43 rfl ?_
    refine e_r_iconst (pc' := 47) dX11_leftIn_46 rfl (by decide) ?_
    refine e_r_iald (j9 := 1) (pc' := 48) rfl (Nat.le_of_ble_eq_true rfl) (by decide) (by decide) rfl dX11_leftIn_47 rfl ?_
    refine e_r_ishl (pc' := 49) dX11_leftIn_48 rfl ?_
    refine e_r_iconst (pc' := 50) dX11_leftIn_49 rfl (by decide) ?_
    refine e_r_isub (pc' := 51) dX11_leftIn_50 rfl ?_
    refine e_r_iload_n (pc' := 52) dX11_leftIn_51 rfl rfl rfl ?_
    refine e_r_iconst (pc' := 53) dX11_leftIn_52 rfl (by decide) ?_
    refine e_r_ixor (pc' := 54) dX11_leftIn_53 rfl ?_
    refine e_r_iand (pc' := 55) dX11_leftIn_54 rfl ?_
    exact e_r_iret (ty := .int) rfl (e_nI _) dX11_leftIn_55 h
  · have h := hf2 c
    refine e_r_iload_n (pc' := 15) dX11_leftIn_14 rfl rfl rfl ?_
    refine e_r_aload_n (pc' := 16) zq0 dX11_leftIn_15 rfl rfl rfl ?_
    refine e_r_iload_n (pc' := 17) dX11_leftIn_16 rfl rfl rfl ?_
    obtain ⟨r4, N3, he5, h⟩ := h
    refine e_r_callS (av := [.inr (.inr q0), .inl v3]) (st := [.inl v2]) mqYX11_isSold ml_RX11_261 (by simp [e_cat]) rfl rfl rfl dX11_leftIn_17 (pc' := 20) rfl he5 ⟨Nat.le_refl _, Nat.le_refl _⟩ hmo ?_
    obtain ⟨ht6, hf7⟩ := h
    refine e_r_if_eq (tgt := 27) (pc' := 23) dX11_leftIn_20 rfl rfl (fun c => ?_) (fun c => ?_)
    · have h := ht6 c
      refine e_r_aload_n (pc' := 28) (by decide) dX11_leftIn_27 rfl rfl rfl ?_
      refine e_r_getr (k := 16) (q := 72) (pc' := 31) cl_11 rfl (Nat.le_of_ble_eq_true rfl) rfl rfl fl_RX11_35 rfl (Nat.le_of_ble_eq_true rfl) dX11_leftIn_28 rfl ?_
      refine e_r_iload_n (pc' := 32) dX11_leftIn_31 rfl rfl rfl ?_
      obtain ⟨hb8, h⟩ := h
      refine e_r_iald (j9 := v3.toNat) (pc' := 33) rfl (Nat.le_of_ble_eq_true rfl) hb8.1 hb8.2 rfl dX11_leftIn_32 rfl ?_
      refine e_r_ior (pc' := 34) dX11_leftIn_33 rfl ?_
      refine e_r_istore_n (pc' := 35) (loc' := [some (.inr (.inr 64)), some (.inr (.inr q0)), some (.inl (e_or v2 (N3 72 v3.toNat))), some (.inl v3)]) dX11_leftIn_34 rfl rfl rfl rfl rfl ?_
      refine e_r_iinc (pc' := 38) (loc' := [some (.inr (.inr 64)), some (.inr (.inr q0)), some (.inl (e_or v2 (N3 72 v3.toNat))), some (.inl (e_w (v3 + 1)))]) dX11_leftIn_35 rfl rfl rfl rfl rfl ?_
      refine e_r_goto (pc' := 4) dX11_leftIn_38 rfl ?_
      exact h
    · have h := hf7 c
      refine e_r_iconst (pc' := 24) dX11_leftIn_23 rfl (by decide) ?_
      refine e_r_goto (pc' := 33) dX11_leftIn_24 rfl ?_
      refine e_r_ior (pc' := 34) dX11_leftIn_33 rfl ?_
      refine e_r_istore_n (pc' := 35) (loc' := [some (.inr (.inr 64)), some (.inr (.inr q0)), some (.inl (e_or v2 0)), some (.inl v3)]) dX11_leftIn_34 rfl rfl rfl rfl rfl ?_
      refine e_r_iinc (pc' := 38) (loc' := [some (.inr (.inr 64)), some (.inr (.inr q0)), some (.inl (e_or v2 0)), some (.inl (e_w (v3 + 1)))]) dX11_leftIn_35 rfl rfl rfl rfl rfl ?_
      refine e_r_goto (pc' := 4) dX11_leftIn_38 rfl ?_
      exact h
theorem wp_X11_worthOf_0 {X : e_X} {d gn : Nat} {o : e_O} (M : e_M) (p1 : Int) (h : e_G X (d + 1) YX11_worthOf 4 [some (.inr (.inr 64)), some (.inl p1), some (.inl 0), some (.inl 0)] [] (557, gn, e_RF, M) o) : e_G X (d + 1) YX11_worthOf 0 [some (.inr (.inr 64)), some (.inl p1), none, none] [] (557, gn, e_RF, M) o := by
  refine e_r_iconst (pc' := 1) dX11_worthOf_0 rfl (by decide) ?_
  refine e_r_istore_n (pc' := 2) (loc' := [some (.inr (.inr 64)), some (.inl p1), some (.inl 0), none]) dX11_worthOf_1 rfl rfl rfl rfl rfl ?_
  refine e_r_iconst (pc' := 3) dX11_worthOf_2 rfl (by decide) ?_
  refine e_r_istore_n (pc' := 4) (loc' := [some (.inr (.inr 64)), some (.inl p1), some (.inl 0), some (.inl 0)]) dX11_worthOf_3 rfl rfl rfl rfl rfl ?_
  exact h
theorem wp_X11_worthOf_4 {X : e_X} {d gn : Nat} {o : e_O} (M : e_M) (p1 v2 v3 : Int) (hmo : e_mn (557, gn, e_RF, M) o.2) (h : (((M 68 1) ≤ v3 → (o = (.inl (some (.inl v2)), (557, gn, e_RF, M)))) ∧ (¬ ((M 68 1) ≤ v3) → (∃ (r4 : Int) (N3 : e_M), e_E X d YX11_has [.inl p1, .inl v3] (557, gn, e_RF, M) (.inl (some (.inl r4)), (557, gn, e_RF, N3)) ∧ ((r4 = 0 → e_G X (d + 1) YX11_worthOf 4 [some (.inr (.inr 64)), some (.inl p1), some (.inl (e_w (v2 + 0))), some (.inl (e_w (v3 + 1)))] [] (557, gn, e_RF, N3) o) ∧ (¬ (r4 = 0) → ((0 ≤ v3 ∧ v3 < 6) ∧ e_G X (d + 1) YX11_worthOf 4 [some (.inr (.inr 64)), some (.inl p1), some (.inl (e_w (v2 + (N3 70 v3.toNat)))), some (.inl (e_w (v3 + 1)))] [] (557, gn, e_RF, N3) o))))))) : e_G X (d + 1) YX11_worthOf 4 [some (.inr (.inr 64)), some (.inl p1), some (.inl v2), some (.inl v3)] [] (557, gn, e_RF, M) o := by
  refine e_r_iload_n (pc' := 5) dX11_worthOf_4 rfl rfl rfl ?_
  refine e_r_aload_n (pc' := 6) (by decide) dX11_worthOf_5 rfl rfl rfl ?_
  refine e_r_getr (k := 12) (q := 68) (pc' := 9) cl_11 rfl (Nat.le_of_ble_eq_true rfl) rfl rfl fl_RX11_23 rfl (Nat.le_of_ble_eq_true rfl) dX11_worthOf_6 rfl ?_
  refine e_r_iconst (pc' := 10) dX11_worthOf_9 rfl (by decide) ?_
  refine e_r_iald (j9 := 1) (pc' := 11) rfl (Nat.le_of_ble_eq_true rfl) (by decide) (by decide) rfl dX11_worthOf_10 rfl ?_
  obtain ⟨ht1, hf2⟩ := h
  refine e_r_icmp_ge (tgt := 41) (pc' := 14) dX11_worthOf_11 rfl rfl (fun c => ?_) (fun c => ?_)
  · have h := ht1 c
    refine e_r_iload_n (pc' := 42) dX11_worthOf_41 rfl rfl rfl ?_
    exact e_r_iret (ty := .int) rfl (e_nI _) dX11_worthOf_42 h
  · have h := hf2 c
    refine e_r_iload_n (pc' := 15) dX11_worthOf_14 rfl rfl rfl ?_
    refine e_r_iload_n (pc' := 16) dX11_worthOf_15 rfl rfl rfl ?_
    refine e_r_iload_n (pc' := 17) dX11_worthOf_16 rfl rfl rfl ?_
    obtain ⟨r4, N3, he5, h⟩ := h
    refine e_r_callS (av := [.inl p1, .inl v3]) (st := [.inl v2]) mqYX11_has ml_RX11_255 (by simp [e_cat]) rfl rfl rfl dX11_worthOf_17 (pc' := 20) rfl he5 ⟨Nat.le_refl _, Nat.le_refl _⟩ hmo ?_
    obtain ⟨ht6, hf7⟩ := h
    refine e_r_if_eq (tgt := 32) (pc' := 23) dX11_worthOf_20 rfl rfl (fun c => ?_) (fun c => ?_)
    · have h := ht6 c
      refine e_r_iconst (pc' := 33) dX11_worthOf_32 rfl (by decide) ?_
      refine e_r_iadd (pc' := 34) dX11_worthOf_33 rfl ?_
      refine e_r_istore_n (pc' := 35) (loc' := [some (.inr (.inr 64)), some (.inl p1), some (.inl (e_w (v2 + 0))), some (.inl v3)]) dX11_worthOf_34 rfl rfl rfl rfl rfl ?_
      refine e_r_iinc (pc' := 38) (loc' := [some (.inr (.inr 64)), some (.inl p1), some (.inl (e_w (v2 + 0))), some (.inl (e_w (v3 + 1)))]) dX11_worthOf_35 rfl rfl rfl rfl rfl ?_
      refine e_r_goto (pc' := 4) dX11_worthOf_38 rfl ?_
      exact h
    · have h := hf7 c
      refine e_r_aload_n (pc' := 24) (by decide) dX11_worthOf_23 rfl rfl rfl ?_
      refine e_r_getr (k := 14) (q := 70) (pc' := 27) cl_11 rfl (Nat.le_of_ble_eq_true rfl) rfl rfl fl_RX11_29 rfl (Nat.le_of_ble_eq_true rfl) dX11_worthOf_24 rfl ?_
      refine e_r_iload_n (pc' := 28) dX11_worthOf_27 rfl rfl rfl ?_
      obtain ⟨hb8, h⟩ := h
      refine e_r_iald (j9 := v3.toNat) (pc' := 29) rfl (Nat.le_of_ble_eq_true rfl) hb8.1 hb8.2 rfl dX11_worthOf_28 rfl ?_
      refine e_r_goto (pc' := 33) dX11_worthOf_29 rfl ?_
      refine e_r_iadd (pc' := 34) dX11_worthOf_33 rfl ?_
      refine e_r_istore_n (pc' := 35) (loc' := [some (.inr (.inr 64)), some (.inl p1), some (.inl (e_w (v2 + (N3 70 v3.toNat)))), some (.inl v3)]) dX11_worthOf_34 rfl rfl rfl rfl rfl ?_
      refine e_r_iinc (pc' := 38) (loc' := [some (.inr (.inr 64)), some (.inl p1), some (.inl (e_w (v2 + (N3 70 v3.toNat)))), some (.inl (e_w (v3 + 1)))]) dX11_worthOf_35 rfl rfl rfl rfl rfl ?_
      refine e_r_goto (pc' := 4) dX11_worthOf_38 rfl ?_
      exact h
theorem wp_X11_weekEnds_0 {X : e_X} {d gn : Nat} {o : e_O} {q0 : Nat} (hq0 : e_SH q0 = (20, 56)) (kq0 : q0 ≤ 557) (zq0 : q0 ≠ 0) (M : e_M) (hmo : e_mn (557, gn, e_RF, M) o.2) (h : (∃ (r2 : Int) (N1 : e_M), e_E X d YX11_leftIn [.inr (.inr 64), .inr (.inr q0)] (557, gn, e_RF, M) (.inl (some (.inl r2)), (557, gn, e_RF, N1)) ∧ (∃ (r5 : Int) (N4 : e_M), e_E X d YX11_worthOf [.inr (.inr 64), .inl r2] (557, gn, e_RF, N1) (.inl (some (.inl r5)), (557, gn, e_RF, N4)) ∧ e_G X (d + 1) YX11_weekEnds 18 [some (.inr (.inr 64)), some (.inr (.inr q0)), some (.inl 0), none, none, none] [] (557, gn, e_RF, (e_up N4 q0 54 (e_w ((M q0 54) + r5)))) o))) : e_G X (d + 1) YX11_weekEnds 0 [some (.inr (.inr 64)), some (.inr (.inr q0)), none, none, none, none] [] (557, gn, e_RF, M) o := by
  refine e_r_aload_n (pc' := 1) zq0 dX11_weekEnds_0 rfl rfl rfl ?_
  refine e_r_bipush (pc' := 3) dX11_weekEnds_1 rfl (by decide) ?_
  refine e_r_dup2 (pc' := 4) rfl rfl dX11_weekEnds_3 rfl ?_
  refine e_r_iald (j9 := 54) (pc' := 5) hq0 kq0 (by decide) (by decide) rfl dX11_weekEnds_4 rfl ?_
  refine e_r_aload_n (pc' := 6) (by decide) dX11_weekEnds_5 rfl rfl rfl ?_
  refine e_r_aload_n (pc' := 7) (by decide) dX11_weekEnds_6 rfl rfl rfl ?_
  refine e_r_aload_n (pc' := 8) zq0 dX11_weekEnds_7 rfl rfl rfl ?_
  obtain ⟨r2, N1, he3, h⟩ := h
  refine e_r_callV (a := 64) (av := [.inr (.inr q0)]) (st := [.inr (.inr 64), .inl (M q0 54), .inl 54, .inr (.inr q0)]) mqYX11_leftIn ml_RX11_285 cl_11 rfl (Nat.le_of_ble_eq_true rfl) (by simp [e_cat]) rfl rfl rfl dX11_weekEnds_8 (pc' := 11) rfl he3 ⟨Nat.le_refl _, Nat.le_refl _⟩ hmo ?_
  obtain ⟨r5, N4, he6, h⟩ := h
  refine e_r_callV (a := 64) (av := [.inl r2]) (st := [.inl (M q0 54), .inl 54, .inr (.inr q0)]) mqYX11_worthOf ml_RX11_289 cl_11 rfl (Nat.le_of_ble_eq_true rfl) (by simp [e_cat]) rfl rfl rfl dX11_weekEnds_11 (pc' := 14) rfl he6 ⟨Nat.le_refl _, Nat.le_refl _⟩ hmo ?_
  refine e_r_iadd (pc' := 15) dX11_weekEnds_14 rfl ?_
  refine e_r_iast (j9 := 54) (pc' := 16) hq0 kq0 (by decide) (by decide) rfl dX11_weekEnds_15 rfl ?_
  refine e_r_iconst (pc' := 17) dX11_weekEnds_16 rfl (by decide) ?_
  refine e_r_istore_n (pc' := 18) (loc' := [some (.inr (.inr 64)), some (.inr (.inr q0)), some (.inl 0), none, none, none]) dX11_weekEnds_17 rfl rfl rfl rfl rfl ?_
  exact h
theorem wp_X11_weekEnds_18 {X : e_X} {d gn : Nat} {o : e_O} {q0 : Nat} (hq0 : e_SH q0 = (20, 56)) (kq0 : q0 ≤ 557) (zq0 : q0 ≠ 0) (M : e_M) (v2 : Int) (hmo : e_mn (557, gn, e_RF, M) o.2) (h : (((M 68 0) ≤ v2 → e_G X (d + 1) YX11_weekEnds 218 [some (.inr (.inr 64)), some (.inr (.inr q0)), some (.inl 0), none, none, none] [] (557, gn, e_RF, M) o) ∧ (¬ ((M 68 0) ≤ v2) → (∃ (r4 : Int) (N3 : e_M), e_E X d YX11_isSold [.inr (.inr q0), .inl v2] (557, gn, e_RF, M) (.inl (some (.inl r4)), (557, gn, e_RF, N3)) ∧ ((¬ r4 = 0 → e_G X (d + 1) YX11_weekEnds 41 [some (.inr (.inr 64)), some (.inr (.inr q0)), some (.inl v2), none, none, none] [.inl 0] (557, gn, e_RF, N3) o) ∧ (r4 = 0 → e_G X (d + 1) YX11_weekEnds 41 [some (.inr (.inr 64)), some (.inr (.inr q0)), some (.inl v2), none, none, none] [.inl 1] (557, gn, e_RF, N3) o)))))) : e_G X (d + 1) YX11_weekEnds 18 [some (.inr (.inr 64)), some (.inr (.inr q0)), some (.inl v2), none, none, none] [] (557, gn, e_RF, M) o := by
  refine e_r_iload_n (pc' := 19) dX11_weekEnds_18 rfl rfl rfl ?_
  refine e_r_aload_n (pc' := 20) (by decide) dX11_weekEnds_19 rfl rfl rfl ?_
  refine e_r_getr (k := 12) (q := 68) (pc' := 23) cl_11 rfl (Nat.le_of_ble_eq_true rfl) rfl rfl fl_RX11_23 rfl (Nat.le_of_ble_eq_true rfl) dX11_weekEnds_20 rfl ?_
  refine e_r_iconst (pc' := 24) dX11_weekEnds_23 rfl (by decide) ?_
  refine e_r_iald (j9 := 0) (pc' := 25) rfl (Nat.le_of_ble_eq_true rfl) (by decide) (by decide) rfl dX11_weekEnds_24 rfl ?_
  obtain ⟨ht1, hf2⟩ := h
  refine e_r_icmp_ge (tgt := 216) (pc' := 28) dX11_weekEnds_25 rfl rfl (fun c => ?_) (fun c => ?_)
  · have h := ht1 c
    refine e_r_iconst (pc' := 217) dX11_weekEnds_216 rfl (by decide) ?_
    refine e_r_istore_n (pc' := 218) (loc' := [some (.inr (.inr 64)), some (.inr (.inr q0)), some (.inl 0), none, none, none]) dX11_weekEnds_217 rfl rfl rfl rfl rfl ?_
    exact h
  · have h := hf2 c
    refine e_r_aload_n (pc' := 29) zq0 dX11_weekEnds_28 rfl rfl rfl ?_
    refine e_r_iload_n (pc' := 30) dX11_weekEnds_29 rfl rfl rfl ?_
    obtain ⟨r4, N3, he5, h⟩ := h
    refine e_r_callS (av := [.inr (.inr q0), .inl v2]) (st := []) mqYX11_isSold ml_RX11_261 (by simp [e_cat]) rfl rfl rfl dX11_weekEnds_30 (pc' := 33) rfl he5 ⟨Nat.le_refl _, Nat.le_refl _⟩ hmo ?_
    obtain ⟨ht6, hf7⟩ := h
    refine e_r_if_ne (tgt := 40) (pc' := 36) dX11_weekEnds_33 rfl rfl (fun c => ?_) (fun c => ?_)
    · have h := ht6 c
      refine e_r_iconst (pc' := 41) dX11_weekEnds_40 rfl (by decide) ?_
      exact h
    · have h := hf7 c
      refine e_r_iconst (pc' := 37) dX11_weekEnds_36 rfl (by decide) ?_
      refine e_r_goto (pc' := 41) dX11_weekEnds_37 rfl ?_
      exact h
theorem wp_X11_weekEnds_41 {X : e_X} {d gn : Nat} {o : e_O} {q0 : Nat} (hq0 : e_SH q0 = (20, 56)) (kq0 : q0 ≤ 557) (zq0 : q0 ≠ 0) (M : e_M) (v2 w0 : Int) (h : ((0 ≤ (e_w (6 + v2)) ∧ (e_w (6 + v2)) < 56) ∧ ((w0 = 0 → e_G X (d + 1) YX11_weekEnds 60 [some (.inr (.inr 64)), some (.inr (.inr q0)), some (.inl v2), some (.inl w0), none, none] [.inl 6, .inl (M q0 (e_w (6 + v2)).toNat), .inl (e_w (6 + v2)), .inr (.inr q0)] (557, gn, e_RF, M) o) ∧ (¬ (w0 = 0) → e_G X (d + 1) YX11_weekEnds 60 [some (.inr (.inr 64)), some (.inr (.inr q0)), some (.inl v2), some (.inl w0), none, none] [.inl 7, .inl (M q0 (e_w (6 + v2)).toNat), .inl (e_w (6 + v2)), .inr (.inr q0)] (557, gn, e_RF, M) o)))) : e_G X (d + 1) YX11_weekEnds 41 [some (.inr (.inr 64)), some (.inr (.inr q0)), some (.inl v2), none, none, none] [.inl w0] (557, gn, e_RF, M) o := by
  refine e_r_istore_n (pc' := 42) (loc' := [some (.inr (.inr 64)), some (.inr (.inr q0)), some (.inl v2), some (.inl w0), none, none]) dX11_weekEnds_41 rfl rfl rfl rfl rfl ?_
  refine e_r_aload_n (pc' := 43) zq0 dX11_weekEnds_42 rfl rfl rfl ?_
  refine e_r_bipush (pc' := 45) dX11_weekEnds_43 rfl (by decide) ?_
  refine e_r_iload_n (pc' := 46) dX11_weekEnds_45 rfl rfl rfl ?_
  refine e_r_iadd (pc' := 47) dX11_weekEnds_46 rfl ?_
  refine e_r_dup2 (pc' := 48) rfl rfl dX11_weekEnds_47 rfl ?_
  obtain ⟨hb1, h⟩ := h
  refine e_r_iald (j9 := (e_w (6 + v2)).toNat) (pc' := 49) hq0 kq0 hb1.1 hb1.2 rfl dX11_weekEnds_48 rfl ?_
  refine e_r_iload_n (pc' := 50) dX11_weekEnds_49 rfl rfl rfl ?_
  obtain ⟨ht2, hf3⟩ := h
  refine e_r_if_eq (tgt := 58) (pc' := 53) dX11_weekEnds_50 rfl rfl (fun c => ?_) (fun c => ?_)
  · have h := ht2 c
    refine e_r_bipush (pc' := 60) dX11_weekEnds_58 rfl (by decide) ?_
    exact h
  · have h := hf3 c
    refine e_r_bipush (pc' := 55) dX11_weekEnds_53 rfl (by decide) ?_
    refine e_r_goto (pc' := 60) dX11_weekEnds_55 rfl ?_
    exact h
theorem wp_X11_weekEnds_60 {X : e_X} {d gn : Nat} {o : e_O} {q0 : Nat} (hq0 : e_SH q0 = (20, 56)) (kq0 : q0 ≤ 557) (zq0 : q0 ≠ 0) (M : e_M) (v2 v3 w0 w1 w2 : Int) (h : ((0 ≤ w2 ∧ w2 < 56) ∧ ((0 ≤ (e_w (12 + v2)) ∧ (e_w (12 + v2)) < 56) ∧ ((v3 = 0 → e_G X (d + 1) YX11_weekEnds 78 [some (.inr (.inr 64)), some (.inr (.inr q0)), some (.inl v2), some (.inl v3), none, none] [.inl 1, .inl ((e_up M q0 w2.toNat (e_w (w1 + w0))) q0 (e_w (12 + v2)).toNat), .inl (e_w (12 + v2)), .inr (.inr q0)] (557, gn, e_RF, (e_up M q0 w2.toNat (e_w (w1 + w0)))) o) ∧ (¬ (v3 = 0) → e_G X (d + 1) YX11_weekEnds 78 [some (.inr (.inr 64)), some (.inr (.inr q0)), some (.inl v2), some (.inl v3), none, none] [.inl 0, .inl ((e_up M q0 w2.toNat (e_w (w1 + w0))) q0 (e_w (12 + v2)).toNat), .inl (e_w (12 + v2)), .inr (.inr q0)] (557, gn, e_RF, (e_up M q0 w2.toNat (e_w (w1 + w0)))) o))))) : e_G X (d + 1) YX11_weekEnds 60 [some (.inr (.inr 64)), some (.inr (.inr q0)), some (.inl v2), some (.inl v3), none, none] [.inl w0, .inl w1, .inl w2, .inr (.inr q0)] (557, gn, e_RF, M) o := by
  refine e_r_iadd (pc' := 61) dX11_weekEnds_60 rfl ?_
  obtain ⟨hb1, h⟩ := h
  refine e_r_iast (j9 := w2.toNat) (pc' := 62) hq0 kq0 hb1.1 hb1.2 rfl dX11_weekEnds_61 rfl ?_
  refine e_r_aload_n (pc' := 63) zq0 dX11_weekEnds_62 rfl rfl rfl ?_
  refine e_r_bipush (pc' := 65) dX11_weekEnds_63 rfl (by decide) ?_
  refine e_r_iload_n (pc' := 66) dX11_weekEnds_65 rfl rfl rfl ?_
  refine e_r_iadd (pc' := 67) dX11_weekEnds_66 rfl ?_
  refine e_r_dup2 (pc' := 68) rfl rfl dX11_weekEnds_67 rfl ?_
  obtain ⟨hb2, h⟩ := h
  refine e_r_iald (j9 := (e_w (12 + v2)).toNat) (pc' := 69) hq0 kq0 hb2.1 hb2.2 rfl dX11_weekEnds_68 rfl ?_
  refine e_r_iload_n (pc' := 70) dX11_weekEnds_69 rfl rfl rfl ?_
  obtain ⟨ht3, hf4⟩ := h
  refine e_r_if_eq (tgt := 77) (pc' := 73) dX11_weekEnds_70 rfl rfl (fun c => ?_) (fun c => ?_)
  · have h := ht3 c
    refine e_r_iconst (pc' := 78) dX11_weekEnds_77 rfl (by decide) ?_
    exact h
  · have h := hf4 c
    refine e_r_iconst (pc' := 74) dX11_weekEnds_73 rfl (by decide) ?_
    refine e_r_goto (pc' := 78) dX11_weekEnds_74 rfl ?_
    exact h
theorem wp_X11_weekEnds_78 {X : e_X} {d gn : Nat} {o : e_O} {q0 : Nat} (hq0 : e_SH q0 = (20, 56)) (kq0 : q0 ≤ 557) (zq0 : q0 ≠ 0) (M : e_M) (v2 v3 w0 w1 w2 : Int) (hmo : e_mn (557, gn, e_RF, M) o.2) (h : ((0 ≤ w2 ∧ w2 < 56) ∧ ((v3 = 0 → e_G X (d + 1) YX11_weekEnds 112 [some (.inr (.inr 64)), some (.inr (.inr q0)), some (.inl v2), some (.inl v3), some (.inl 0), none] [] (557, gn, e_RF, (e_up M q0 w2.toNat (e_w (w1 + w0)))) o) ∧ (¬ (v3 = 0) → ((0 ≤ (e_w (0 + v2)) ∧ (e_w (0 + v2)) < 56) ∧ ((0 ≤ v2 ∧ v2 < 6) ∧ (∃ (r7 : Int) (N6 : e_M), e_E X d YX11_less [.inl 999, .inl (e_w (((e_up M q0 w2.toNat (e_w (w1 + w0))) q0 (e_w (0 + v2)).toNat) + ((e_up M q0 w2.toNat (e_w (w1 + w0))) (81 + v2.toNat) 1)))] (557, gn, e_RF, (e_up M q0 w2.toNat (e_w (w1 + w0)))) (.inl (some (.inl r7)), (557, gn, e_RF, N6)) ∧ ((0 ≤ (e_w (0 + v2)) ∧ (e_w (0 + v2)) < 56) ∧ e_G X (d + 1) YX11_weekEnds 112 [some (.inr (.inr 64)), some (.inr (.inr q0)), some (.inl v2), some (.inl v3), some (.inl 0), none] [] (557, gn, e_RF, (e_up N6 q0 (e_w (0 + v2)).toNat r7)) o)))))))) : e_G X (d + 1) YX11_weekEnds 78 [some (.inr (.inr 64)), some (.inr (.inr q0)), some (.inl v2), some (.inl v3), none, none] [.inl w0, .inl w1, .inl w2, .inr (.inr q0)] (557, gn, e_RF, M) o := by
  refine e_r_iadd (pc' := 79) dX11_weekEnds_78 rfl ?_
  obtain ⟨hb1, h⟩ := h
  refine e_r_iast (j9 := w2.toNat) (pc' := 80) hq0 kq0 hb1.1 hb1.2 rfl dX11_weekEnds_79 rfl ?_
  refine e_r_iload_n (pc' := 81) dX11_weekEnds_80 rfl rfl rfl ?_
  obtain ⟨ht2, hf3⟩ := h
  refine e_r_if_eq (tgt := 109) (pc' := 84) dX11_weekEnds_81 rfl rfl (fun c => ?_) (fun c => ?_)
  · have h := ht2 c
    refine e_r_iconst (pc' := 110) dX11_weekEnds_109 rfl (by decide) ?_
    refine e_r_istore (pc' := 112) (loc' := [some (.inr (.inr 64)), some (.inr (.inr q0)), some (.inl v2), some (.inl v3), some (.inl 0), none]) dX11_weekEnds_110 rfl rfl rfl rfl ?_
    exact h
  · have h := hf3 c
    refine e_r_aload_n (pc' := 85) zq0 dX11_weekEnds_84 rfl rfl rfl ?_
    refine e_r_iconst (pc' := 86) dX11_weekEnds_85 rfl (by decide) ?_
    refine e_r_iload_n (pc' := 87) dX11_weekEnds_86 rfl rfl rfl ?_
    refine e_r_iadd (pc' := 88) dX11_weekEnds_87 rfl ?_
    refine e_r_sipush (pc' := 91) dX11_weekEnds_88 rfl (by decide) ?_
    refine e_r_aload_n (pc' := 92) zq0 dX11_weekEnds_91 rfl rfl rfl ?_
    refine e_r_iconst (pc' := 93) dX11_weekEnds_92 rfl (by decide) ?_
    refine e_r_iload_n (pc' := 94) dX11_weekEnds_93 rfl rfl rfl ?_
    refine e_r_iadd (pc' := 95) dX11_weekEnds_94 rfl ?_
    obtain ⟨hb4, h⟩ := h
    refine e_r_iald (j9 := (e_w (0 + v2)).toNat) (pc' := 96) hq0 kq0 hb4.1 hb4.2 rfl dX11_weekEnds_95 rfl ?_
    refine e_r_aload_n (pc' := 97) (by decide) dX11_weekEnds_96 rfl rfl rfl ?_
    refine e_r_getr (k := 18) (q := 80) (pc' := 100) cl_11 rfl (Nat.le_of_ble_eq_true rfl) rfl rfl fl_RX11_43 rfl (Nat.le_of_ble_eq_true rfl) dX11_weekEnds_97 rfl ?_
    refine e_r_iload_n (pc' := 101) dX11_weekEnds_100 rfl rfl rfl ?_
    obtain ⟨hb5, h⟩ := h
    refine e_r_aldr (q := (81 + v2.toNat)) (pc' := 102) rfl (Nat.le_of_ble_eq_true rfl) hb5.1 hb5.2 rfl (sh_80 hb5.1 hb5.2).2.1 dX11_weekEnds_101 rfl ?_
    refine e_r_iconst (pc' := 103) dX11_weekEnds_102 rfl (by decide) ?_
    refine e_r_iald (j9 := 1) (pc' := 104) (sh_80 hb5.1 hb5.2).1 (sh_80 hb5.1 hb5.2).2.1 (by decide) (by decide) rfl dX11_weekEnds_103 rfl ?_
    refine e_r_iadd (pc' := 105) dX11_weekEnds_104 rfl ?_
    obtain ⟨r7, N6, he8, h⟩ := h
    refine e_r_callS (av := [.inl 999, .inl (e_w (((e_up M q0 w2.toNat (e_w (w1 + w0))) q0 (e_w (0 + v2)).toNat) + ((e_up M q0 w2.toNat (e_w (w1 + w0))) (81 + v2.toNat) 1)))]) (st := [.inl (e_w (0 + v2)), .inr (.inr q0)]) mqYX11_less ml_RX11_237 (by simp [e_cat]) rfl rfl rfl dX11_weekEnds_105 (pc' := 108) rfl he8 ⟨Nat.le_refl _, Nat.le_refl _⟩ hmo ?_
    obtain ⟨hb9, h⟩ := h
    refine e_r_iast (j9 := (e_w (0 + v2)).toNat) (pc' := 109) hq0 kq0 hb9.1 hb9.2 rfl dX11_weekEnds_108 rfl ?_
    refine e_r_iconst (pc' := 110) dX11_weekEnds_109 rfl (by decide) ?_
    refine e_r_istore (pc' := 112) (loc' := [some (.inr (.inr 64)), some (.inr (.inr q0)), some (.inl v2), some (.inl v3), some (.inl 0), none]) dX11_weekEnds_110 rfl rfl rfl rfl ?_
    exact h
theorem wp_X11_weekEnds_112 {X : e_X} {d gn : Nat} {o : e_O} {q0 : Nat} (hq0 : e_SH q0 = (20, 56)) (kq0 : q0 ≤ 557) (zq0 : q0 ≠ 0) (M : e_M) (v2 v3 v4 : Int) (hmo : e_mn (557, gn, e_RF, M) o.2) (h : (((M 68 2) ≤ v4 → e_G X (d + 1) YX11_weekEnds 18 [some (.inr (.inr 64)), some (.inr (.inr q0)), some (.inl (e_w (v2 + 1))), none, none, none] [] (557, gn, e_RF, M) o) ∧ (¬ ((M 68 2) ≤ v4) → ((0 ≤ v4 ∧ v4 < 12) ∧ ((¬ (M (101 + v4.toNat) 0) = v2 → e_G X (d + 1) YX11_weekEnds 112 [some (.inr (.inr 64)), some (.inr (.inr q0)), some (.inl v2), some (.inl v3), some (.inl (e_w (v4 + 1))), none] [] (557, gn, e_RF, M) o) ∧ ((M (101 + v4.toNat) 0) = v2 → (∃ (r7 : Int) (N6 : e_M), e_E X d YX11_isToday [.inr (.inr 64), .inr (.inr q0), .inl v4] (557, gn, e_RF, M) (.inl (some (.inl r7)), (557, gn, e_RF, N6)) ∧ ((¬ r7 = 0 → ((v3 = 0 → ((0 ≤ v4 ∧ v4 < 12) ∧ ((0 ≤ (e_w (0 + v2)) ∧ (e_w (0 + v2)) < 56) ∧ (∃ (r16 : Int) (N15 : e_M), e_E X d YX11_less [.inl (N6 (101 + v4.toNat) 2), .inl (N6 q0 (e_w (0 + v2)).toNat)] (557, gn, e_RF, N6) (.inl (some (.inl r16)), (557, gn, e_RF, N15)) ∧ ((0 ≤ (e_w (0 + v2)) ∧ (e_w (0 + v2)) < 56) ∧ ((0 ≤ (e_w (0 + v2)) ∧ (e_w (0 + v2)) < 56) ∧ ((0 ≤ (e_w (24 + v2)) ∧ (e_w (24 + v2)) < 56) ∧ ((0 ≤ (e_w (24 + v2)) ∧ (e_w (24 + v2)) < 56) ∧ e_G X (d + 1) YX11_weekEnds 112 [some (.inr (.inr 64)), some (.inr (.inr q0)), some (.inl v2), some (.inl v3), some (.inl (e_w (v4 + 1))), none] [] (557, gn, e_RF, (e_up (e_up N15 q0 (e_w (0 + v2)).toNat (e_w ((N15 q0 (e_w (0 + v2)).toNat) - r16))) q0 (e_w (24 + v2)).toNat (e_w (((e_up N15 q0 (e_w (0 + v2)).toNat (e_w ((N15 q0 (e_w (0 + v2)).toNat) - r16))) q0 (e_w (24 + v2)).toNat) + r16)))) o)))))))) ∧ (¬ (v3 = 0) → ((0 ≤ (e_w (42 + v4)) ∧ (e_w (42 + v4)) < 56) ∧ e_G X (d + 1) YX11_weekEnds 112 [some (.inr (.inr 64)), some (.inr (.inr q0)), some (.inl v2), some (.inl v3), some (.inl (e_w (v4 + 1))), none] [] (557, gn, e_RF, (e_up N6 q0 (e_w (42 + v4)).toNat 1)) o)))) ∧ (r7 = 0 → e_G X (d + 1) YX11_weekEnds 112 [some (.inr (.inr 64)), some (.inr (.inr q0)), some (.inl v2), some (.inl v3), some (.inl (e_w (v4 + 1))), none] [] (557, gn, e_RF, N6) o))))))))) : e_G X (d + 1) YX11_weekEnds 112 [some (.inr (.inr 64)), some (.inr (.inr q0)), some (.inl v2), some (.inl v3), some (.inl v4), none] [] (557, gn, e_RF, M) o := by
  refine e_r_iload (pc' := 114) dX11_weekEnds_112 rfl rfl ?_
  refine e_r_aload_n (pc' := 115) (by decide) dX11_weekEnds_114 rfl rfl rfl ?_
  refine e_r_getr (k := 12) (q := 68) (pc' := 118) cl_11 rfl (Nat.le_of_ble_eq_true rfl) rfl rfl fl_RX11_23 rfl (Nat.le_of_ble_eq_true rfl) dX11_weekEnds_115 rfl ?_
  refine e_r_iconst (pc' := 119) dX11_weekEnds_118 rfl (by decide) ?_
  refine e_r_iald (j9 := 2) (pc' := 120) rfl (Nat.le_of_ble_eq_true rfl) (by decide) (by decide) rfl dX11_weekEnds_119 rfl ?_
  obtain ⟨ht1, hf2⟩ := h
  refine e_r_icmp_ge (tgt := 210) (pc' := 123) dX11_weekEnds_120 rfl rfl (fun c => ?_) (fun c => ?_)
  · have h := ht1 c
    refine e_r_iinc (pc' := 213) (loc' := [some (.inr (.inr 64)), some (.inr (.inr q0)), some (.inl (e_w (v2 + 1))), some (.inl v3), some (.inl v4), none]) dX11_weekEnds_210 rfl rfl rfl rfl rfl ?_
    refine e_r_goto (pc' := 18) dX11_weekEnds_213 rfl ?_
    exact e_forget (m := [true, true, true, false, false, false]) h rfl
  · have h := hf2 c
    refine e_r_aload_n (pc' := 124) (by decide) dX11_weekEnds_123 rfl rfl rfl ?_
    refine e_r_getr (k := 20) (q := 100) (pc' := 127) cl_11 rfl (Nat.le_of_ble_eq_true rfl) rfl rfl fl_RX11_49 rfl (Nat.le_of_ble_eq_true rfl) dX11_weekEnds_124 rfl ?_
    refine e_r_iload (pc' := 129) dX11_weekEnds_127 rfl rfl ?_
    obtain ⟨hb3, h⟩ := h
    refine e_r_aldr (q := (101 + v4.toNat)) (pc' := 130) rfl (Nat.le_of_ble_eq_true rfl) hb3.1 hb3.2 rfl (sh_100 hb3.1 hb3.2).2.1 dX11_weekEnds_129 rfl ?_
    refine e_r_iconst (pc' := 131) dX11_weekEnds_130 rfl (by decide) ?_
    refine e_r_iald (j9 := 0) (pc' := 132) (sh_100 hb3.1 hb3.2).1 (sh_100 hb3.1 hb3.2).2.1 (by decide) (by decide) rfl dX11_weekEnds_131 rfl ?_
    refine e_r_iload_n (pc' := 133) dX11_weekEnds_132 rfl rfl rfl ?_
    obtain ⟨ht4, hf5⟩ := h
    refine e_r_icmp_ne (tgt := 204) (pc' := 136) dX11_weekEnds_133 rfl rfl (fun c => ?_) (fun c => ?_)
    · have h := ht4 c
      refine e_r_iinc (pc' := 207) (loc' := [some (.inr (.inr 64)), some (.inr (.inr q0)), some (.inl v2), some (.inl v3), some (.inl (e_w (v4 + 1))), none]) dX11_weekEnds_204 rfl rfl rfl rfl rfl ?_
      refine e_r_goto (pc' := 112) dX11_weekEnds_207 rfl ?_
      exact h
    · have h := hf5 c
      refine e_r_aload_n (pc' := 137) (by decide) dX11_weekEnds_136 rfl rfl rfl ?_
      refine e_r_aload_n (pc' := 138) zq0 dX11_weekEnds_137 rfl rfl rfl ?_
      refine e_r_iload (pc' := 140) dX11_weekEnds_138 rfl rfl ?_
      obtain ⟨r7, N6, he8, h⟩ := h
      refine e_r_callV (a := 64) (av := [.inr (.inr q0), .inl v4]) (st := []) mqYX11_isToday ml_RX11_265 cl_11 rfl (Nat.le_of_ble_eq_true rfl) (by simp [e_cat]) rfl rfl rfl dX11_weekEnds_140 (pc' := 143) rfl he8 ⟨Nat.le_refl _, Nat.le_refl _⟩ hmo ?_
      obtain ⟨ht9, hf10⟩ := h
      refine e_r_if_ne (tgt := 149) (pc' := 146) dX11_weekEnds_143 rfl rfl (fun c => ?_) (fun c => ?_)
      · have h := ht9 c
        refine e_r_iload_n (pc' := 150) dX11_weekEnds_149 rfl rfl rfl ?_
        obtain ⟨ht11, hf12⟩ := h
        refine e_r_if_eq (tgt := 164) (pc' := 153) dX11_weekEnds_150 rfl rfl (fun c => ?_) (fun c => ?_)
        · have h := ht11 c
          refine e_r_aload_n (pc' := 165) (by decide) dX11_weekEnds_164 rfl rfl rfl ?_
          refine e_r_getr (k := 20) (q := 100) (pc' := 168) cl_11 rfl (Nat.le_of_ble_eq_true rfl) rfl rfl fl_RX11_49 rfl (Nat.le_of_ble_eq_true rfl) dX11_weekEnds_165 rfl ?_
          refine e_r_iload (pc' := 170) dX11_weekEnds_168 rfl rfl ?_
          obtain ⟨hb13, h⟩ := h
          refine e_r_aldr (q := (101 + v4.toNat)) (pc' := 171) rfl (Nat.le_of_ble_eq_true rfl) hb13.1 hb13.2 rfl (sh_100 hb13.1 hb13.2).2.1 dX11_weekEnds_170 rfl ?_
          refine e_r_iconst (pc' := 172) dX11_weekEnds_171 rfl (by decide) ?_
          refine e_r_iald (j9 := 2) (pc' := 173) (sh_100 hb13.1 hb13.2).1 (sh_100 hb13.1 hb13.2).2.1 (by decide) (by decide) rfl dX11_weekEnds_172 rfl ?_
          refine e_r_aload_n (pc' := 174) zq0 dX11_weekEnds_173 rfl rfl rfl ?_
          refine e_r_iconst (pc' := 175) dX11_weekEnds_174 rfl (by decide) ?_
          refine e_r_iload_n (pc' := 176) dX11_weekEnds_175 rfl rfl rfl ?_
          refine e_r_iadd (pc' := 177) dX11_weekEnds_176 rfl ?_
          obtain ⟨hb14, h⟩ := h
          refine e_r_iald (j9 := (e_w (0 + v2)).toNat) (pc' := 178) hq0 kq0 hb14.1 hb14.2 rfl dX11_weekEnds_177 rfl ?_
          obtain ⟨r16, N15, he17, h⟩ := h
          refine e_r_callS (av := [.inl (N6 (101 + v4.toNat) 2), .inl (N6 q0 (e_w (0 + v2)).toNat)]) (st := []) mqYX11_less ml_RX11_237 (by simp [e_cat]) rfl rfl rfl dX11_weekEnds_178 (pc' := 181) rfl he17 ⟨Nat.le_refl _, Nat.le_refl _⟩ hmo ?_
          refine e_r_istore (pc' := 183) (loc' := [some (.inr (.inr 64)), some (.inr (.inr q0)), some (.inl v2), some (.inl v3), some (.inl v4), some (.inl r16)]) dX11_weekEnds_181 rfl rfl rfl rfl ?_
          refine e_r_aload_n (pc' := 184) zq0 dX11_weekEnds_183 rfl rfl rfl ?_
          refine e_r_iconst (pc' := 185) dX11_weekEnds_184 rfl (by decide) ?_
          refine e_r_iload_n (pc' := 186) dX11_weekEnds_185 rfl rfl rfl ?_
          refine e_r_iadd (pc' := 187) dX11_weekEnds_186 rfl ?_
          refine e_r_dup2 (pc' := 188) rfl rfl dX11_weekEnds_187 rfl ?_
          obtain ⟨hb18, h⟩ := h
          refine e_r_iald (j9 := (e_w (0 + v2)).toNat) (pc' := 189) hq0 kq0 hb18.1 hb18.2 rfl dX11_weekEnds_188 rfl ?_
          refine e_r_iload (pc' := 191) dX11_weekEnds_189 rfl rfl ?_
          refine e_r_isub (pc' := 192) dX11_weekEnds_191 rfl ?_
          obtain ⟨hb19, h⟩ := h
          refine e_r_iast (j9 := (e_w (0 + v2)).toNat) (pc' := 193) hq0 kq0 hb19.1 hb19.2 rfl dX11_weekEnds_192 rfl ?_
          refine e_r_aload_n (pc' := 194) zq0 dX11_weekEnds_193 rfl rfl rfl ?_
          refine e_r_bipush (pc' := 196) dX11_weekEnds_194 rfl (by decide) ?_
          refine e_r_iload_n (pc' := 197) dX11_weekEnds_196 rfl rfl rfl ?_
          refine e_r_iadd (pc' := 198) dX11_weekEnds_197 rfl ?_
          refine e_r_dup2 (pc' := 199) rfl rfl dX11_weekEnds_198 rfl ?_
          obtain ⟨hb20, h⟩ := h
          refine e_r_iald (j9 := (e_w (24 + v2)).toNat) (pc' := 200) hq0 kq0 hb20.1 hb20.2 rfl dX11_weekEnds_199 rfl ?_
          refine e_r_iload (pc' := 202) dX11_weekEnds_200 rfl rfl ?_
          refine e_r_iadd (pc' := 203) dX11_weekEnds_202 rfl ?_
          obtain ⟨hb21, h⟩ := h
          refine e_r_iast (j9 := (e_w (24 + v2)).toNat) (pc' := 204) hq0 kq0 hb21.1 hb21.2 rfl dX11_weekEnds_203 rfl ?_
          refine e_r_iinc (pc' := 207) (loc' := [some (.inr (.inr 64)), some (.inr (.inr q0)), some (.inl v2), some (.inl v3), some (.inl (e_w (v4 + 1))), some (.inl r16)]) dX11_weekEnds_204 rfl rfl rfl rfl rfl ?_
          refine e_r_goto (pc' := 112) dX11_weekEnds_207 rfl ?_
          exact e_forget (m := [true, true, true, true, true, false]) h rfl
        · have h := hf12 c
          refine e_r_aload_n (pc' := 154) zq0 dX11_weekEnds_153 rfl rfl rfl ?_
          refine e_r_bipush (pc' := 156) dX11_weekEnds_154 rfl (by decide) ?_
          refine e_r_iload (pc' := 158) dX11_weekEnds_156 rfl rfl ?_
          refine e_r_iadd (pc' := 159) dX11_weekEnds_158 rfl ?_
          refine e_r_iconst (pc' := 160) dX11_weekEnds_159 rfl (by decide) ?_
          obtain ⟨hb22, h⟩ := h
          refine e_r_iast (j9 := (e_w (42 + v4)).toNat) (pc' := 161) hq0 kq0 hb22.1 hb22.2 rfl dX11_weekEnds_160 rfl ?_
          refine e_r_goto (pc' := 204) dX11_weekEnds_161 rfl ?_
          refine e_r_iinc (pc' := 207) (loc' := [some (.inr (.inr 64)), some (.inr (.inr q0)), some (.inl v2), some (.inl v3), some (.inl (e_w (v4 + 1))), none]) dX11_weekEnds_204 rfl rfl rfl rfl rfl ?_
          refine e_r_goto (pc' := 112) dX11_weekEnds_207 rfl ?_
          exact h
      · have h := hf10 c
        refine e_r_goto (pc' := 204) dX11_weekEnds_146 rfl ?_
        refine e_r_iinc (pc' := 207) (loc' := [some (.inr (.inr 64)), some (.inr (.inr q0)), some (.inl v2), some (.inl v3), some (.inl (e_w (v4 + 1))), none]) dX11_weekEnds_204 rfl rfl rfl rfl rfl ?_
        refine e_r_goto (pc' := 112) dX11_weekEnds_207 rfl ?_
        exact h
theorem wp_X11_weekEnds_218 {X : e_X} {d gn : Nat} {o : e_O} {q0 : Nat} (hq0 : e_SH q0 = (20, 56)) (kq0 : q0 ≤ 557) (zq0 : q0 ≠ 0) (M : e_M) (v2 : Int) (h : ((6 ≤ v2 → (o = (.inl none, (557, gn, e_RF, (e_up M q0 55 (e_w ((M q0 55) + 1))))))) ∧ (¬ (6 ≤ v2) → ((0 ≤ (e_w (18 + v2)) ∧ (e_w (18 + v2)) < 56) ∧ e_G X (d + 1) YX11_weekEnds 218 [some (.inr (.inr 64)), some (.inr (.inr q0)), some (.inl (e_w (v2 + 1))), none, none, none] [] (557, gn, e_RF, (e_up M q0 (e_w (18 + v2)).toNat (-1))) o)))) : e_G X (d + 1) YX11_weekEnds 218 [some (.inr (.inr 64)), some (.inr (.inr q0)), some (.inl v2), none, none, none] [] (557, gn, e_RF, M) o := by
  refine e_r_iload_n (pc' := 219) dX11_weekEnds_218 rfl rfl rfl ?_
  refine e_r_bipush (pc' := 221) dX11_weekEnds_219 rfl (by decide) ?_
  obtain ⟨ht1, hf2⟩ := h
  refine e_r_icmp_ge (tgt := 237) (pc' := 224) dX11_weekEnds_221 rfl rfl (fun c => ?_) (fun c => ?_)
  · have h := ht1 c
    refine e_r_aload_n (pc' := 238) zq0 dX11_weekEnds_237 rfl rfl rfl ?_
    refine e_r_bipush (pc' := 240) dX11_weekEnds_238 rfl (by decide) ?_
    refine e_r_dup2 (pc' := 241) rfl rfl dX11_weekEnds_240 rfl ?_
    refine e_r_iald (j9 := 55) (pc' := 242) hq0 kq0 (by decide) (by decide) rfl dX11_weekEnds_241 rfl ?_
    refine e_r_iconst (pc' := 243) dX11_weekEnds_242 rfl (by decide) ?_
    refine e_r_iadd (pc' := 244) dX11_weekEnds_243 rfl ?_
    refine e_r_iast (j9 := 55) (pc' := 245) hq0 kq0 (by decide) (by decide) rfl dX11_weekEnds_244 rfl ?_
    exact e_r_vret rfl dX11_weekEnds_245 h
  · have h := hf2 c
    refine e_r_aload_n (pc' := 225) zq0 dX11_weekEnds_224 rfl rfl rfl ?_
    refine e_r_bipush (pc' := 227) dX11_weekEnds_225 rfl (by decide) ?_
    refine e_r_iload_n (pc' := 228) dX11_weekEnds_227 rfl rfl rfl ?_
    refine e_r_iadd (pc' := 229) dX11_weekEnds_228 rfl ?_
    refine e_r_iconst (pc' := 230) dX11_weekEnds_229 rfl (by decide) ?_
    obtain ⟨hb3, h⟩ := h
    refine e_r_iast (j9 := (e_w (18 + v2)).toNat) (pc' := 231) hq0 kq0 hb3.1 hb3.2 rfl dX11_weekEnds_230 rfl ?_
    refine e_r_iinc (pc' := 234) (loc' := [some (.inr (.inr 64)), some (.inr (.inr q0)), some (.inl (e_w (v2 + 1))), none, none, none]) dX11_weekEnds_231 rfl rfl rfl rfl rfl ?_
    refine e_r_goto (pc' := 218) dX11_weekEnds_234 rfl ?_
    exact h
theorem wp_X11_does_0 {X : e_X} {d gn : Nat} {o : e_O} {q0 : Nat} (hq0 : e_SH q0 = (20, 56)) (kq0 : q0 ≤ 557) (zq0 : q0 ≠ 0) {q1 : Nat} (hq1 : e_SH q1 = (20, 4)) (kq1 : q1 ≤ 557) (zq1 : q1 ≠ 0) (M : e_M) (hmo : e_mn (557, gn, e_RF, M) o.2) (h : (((M q1 0) = 0 → (∃ (r6 : Int) (N5 : e_M), e_E X d YX11_buys [.inr (.inr 64), .inr (.inr q0), .inl (M q1 1)] (557, gn, e_RF, M) (.inl (some (.inl r6)), (557, gn, e_RF, N5)) ∧ ((r6 = 0 ∨ r6 = 1) ∧ o = (.inl (some (.inl r6)), (557, gn, e_RF, N5))))) ∧ ((M q1 0) = 1 → (∃ (r9 : Int) (N8 : e_M), e_E X d YX11_sells [.inr (.inr q0), .inl (M q1 1)] (557, gn, e_RF, M) (.inl (some (.inl r9)), (557, gn, e_RF, N8)) ∧ ((r9 = 0 ∨ r9 = 1) ∧ o = (.inl (some (.inl r9)), (557, gn, e_RF, N8))))) ∧ ((M q1 0) = 2 → ((0 ≤ (e_w (42 + (M q1 1))) ∧ (e_w (42 + (M q1 1))) < 56) ∧ (((M q0 (e_w (42 + (M q1 1))).toNat) = 1 → (o = (.inl (some (.inl 0)), (557, gn, e_RF, M)))) ∧ (¬ ((M q0 (e_w (42 + (M q1 1))).toNat) = 1) → ((0 ≤ (e_w (30 + (M q1 1))) ∧ (e_w (30 + (M q1 1))) < 56) ∧ (((M q0 (e_w (30 + (M q1 1))).toNat) < (M q0 55) → (o = (.inl (some (.inl 0)), (557, gn, e_RF, M)))) ∧ (¬ ((M q0 (e_w (30 + (M q1 1))).toNat) < (M q0 55)) → ((0 ≤ (e_w (30 + (M q1 1))) ∧ (e_w (30 + (M q1 1))) < 56) ∧ ((¬ (M q0 (e_w (30 + (M q1 1))).toNat) = 60 → ((0 ≤ (e_w (30 + (M q1 1))) ∧ (e_w (30 + (M q1 1))) < 56) ∧ ((0 ≤ (e_w (30 + (M q1 1))) ∧ (e_w (30 + (M q1 1))) < 56) ∧ (o = (.inl (some (.inl 1)), (557, gn, e_RF, (e_up M q0 (e_w (30 + (M q1 1))).toNat (e_w ((M q0 (e_w (30 + (M q1 1))).toNat) + 1))))))))) ∧ ((M q0 (e_w (30 + (M q1 1))).toNat) = 60 → (o = (.inl (some (.inl 0)), (557, gn, e_RF, M))))))))))))) ∧ ((M q1 0) < 0 ∨ 2 < (M q1 0) → (((M q0 55) < 300 → (∃ N24 : e_M, e_E X d YX11_weekEnds [.inr (.inr 64), .inr (.inr q0)] (557, gn, e_RF, M) (.inl none, (557, gn, e_RF, N24)) ∧ (o = (.inl (some (.inl 1)), (557, gn, e_RF, N24))))) ∧ (¬ ((M q0 55) < 300) → (o = (.inl (some (.inl 0)), (557, gn, e_RF, M)))))))) : e_G X (d + 1) YX11_does 0 [some (.inr (.inr 64)), some (.inr (.inr q0)), some (.inr (.inr q1)), none] [] (557, gn, e_RF, M) o := by
  refine e_r_aload_n (pc' := 1) zq1 dX11_does_0 rfl rfl rfl ?_
  refine e_r_iconst (pc' := 2) dX11_does_1 rfl (by decide) ?_
  refine e_r_iald (j9 := 1) (pc' := 3) hq1 kq1 (by decide) (by decide) rfl dX11_does_2 rfl ?_
  refine e_r_istore_n (pc' := 4) (loc' := [some (.inr (.inr 64)), some (.inr (.inr q0)), some (.inr (.inr q1)), some (.inl (M q1 1))]) dX11_does_3 rfl rfl rfl rfl rfl ?_
  refine e_r_aload_n (pc' := 5) zq1 dX11_does_4 rfl rfl rfl ?_
  refine e_r_iconst (pc' := 6) dX11_does_5 rfl (by decide) ?_
  refine e_r_iald (j9 := 0) (pc' := 7) hq1 kq1 (by decide) (by decide) rfl dX11_does_6 rfl ?_
  obtain ⟨hk1, hk2, hk3, hd4⟩ := h
  refine e_r_table (tgt := 93) dX11_does_7 rfl (fun j => bif Nat.beq j 0 then 32 else bif Nat.beq j 1 then 39 else 45) (fun j hj => ?_) (fun j ej hj => ?_) (fun c => ?_)
  · rcases (show j = 0 ∨ j = 1 ∨ j = 2 by omega) with rfl | rfl | rfl
    · exact ⟨25, rfl, rfl⟩
    · exact ⟨32, rfl, rfl⟩
    · exact ⟨38, rfl, rfl⟩
  · rcases (show j = 0 ∨ j = 1 ∨ j = 2 by omega) with rfl | rfl | rfl
    · have h := hk1 (by omega)
      show e_G X (d + 1) YX11_does 32 [some (.inr (.inr 64)), some (.inr (.inr q0)), some (.inr (.inr q1)), some (.inl (M q1 1))] [] (557, gn, e_RF, M) o
      refine e_r_aload_n (pc' := 33) (by decide) dX11_does_32 rfl rfl rfl ?_
      refine e_r_aload_n (pc' := 34) zq0 dX11_does_33 rfl rfl rfl ?_
      refine e_r_iload_n (pc' := 35) dX11_does_34 rfl rfl rfl ?_
      obtain ⟨r6, N5, he7, h⟩ := h
      refine e_r_callV (a := 64) (av := [.inr (.inr q0), .inl (M q1 1)]) (st := []) mqYX11_buys ml_RX11_292 cl_11 rfl (Nat.le_of_ble_eq_true rfl) (by simp [e_cat]) rfl rfl rfl dX11_does_35 (pc' := 38) rfl he7 ⟨Nat.le_refl _, Nat.le_refl _⟩ hmo ?_
      exact e_r_iret (ty := .boolean) rfl (e_nZ h.1) dX11_does_38 h.2
    · have h := hk2 (by omega)
      show e_G X (d + 1) YX11_does 39 [some (.inr (.inr 64)), some (.inr (.inr q0)), some (.inr (.inr q1)), some (.inl (M q1 1))] [] (557, gn, e_RF, M) o
      refine e_r_aload_n (pc' := 40) zq0 dX11_does_39 rfl rfl rfl ?_
      refine e_r_iload_n (pc' := 41) dX11_does_40 rfl rfl rfl ?_
      obtain ⟨r9, N8, he10, h⟩ := h
      refine e_r_callS (av := [.inr (.inr q0), .inl (M q1 1)]) (st := []) mqYX11_sells ml_RX11_295 (by simp [e_cat]) rfl rfl rfl dX11_does_41 (pc' := 44) rfl he10 ⟨Nat.le_refl _, Nat.le_refl _⟩ hmo ?_
      exact e_r_iret (ty := .boolean) rfl (e_nZ h.1) dX11_does_44 h.2
    · have h := hk3 (by omega)
      show e_G X (d + 1) YX11_does 45 [some (.inr (.inr 64)), some (.inr (.inr q0)), some (.inr (.inr q1)), some (.inl (M q1 1))] [] (557, gn, e_RF, M) o
      refine e_r_aload_n (pc' := 46) zq0 dX11_does_45 rfl rfl rfl ?_
      refine e_r_bipush (pc' := 48) dX11_does_46 rfl (by decide) ?_
      refine e_r_iload_n (pc' := 49) dX11_does_48 rfl rfl rfl ?_
      refine e_r_iadd (pc' := 50) dX11_does_49 rfl ?_
      obtain ⟨hb11, h⟩ := h
      refine e_r_iald (j9 := (e_w (42 + (M q1 1))).toNat) (pc' := 51) hq0 kq0 hb11.1 hb11.2 rfl dX11_does_50 rfl ?_
      refine e_r_iconst (pc' := 52) dX11_does_51 rfl (by decide) ?_
      obtain ⟨ht12, hf13⟩ := h
      refine e_r_icmp_eq (tgt := 79) (pc' := 55) dX11_does_52 rfl rfl (fun c => ?_) (fun c => ?_)
      · have h := ht12 c
        refine e_r_iconst (pc' := 80) dX11_does_79 rfl (by decide) ?_
        exact e_r_iret (ty := .boolean) rfl (e_nZ (by decide)) dX11_does_80 h
      · have h := hf13 c
        refine e_r_aload_n (pc' := 56) zq0 dX11_does_55 rfl rfl rfl ?_
        refine e_r_bipush (pc' := 58) dX11_does_56 rfl (by decide) ?_
        refine e_r_iload_n (pc' := 59) dX11_does_58 rfl rfl rfl ?_
        refine e_r_iadd (pc' := 60) dX11_does_59 rfl ?_
        obtain ⟨hb14, h⟩ := h
        refine e_r_iald (j9 := (e_w (30 + (M q1 1))).toNat) (pc' := 61) hq0 kq0 hb14.1 hb14.2 rfl dX11_does_60 rfl ?_
        refine e_r_aload_n (pc' := 62) zq0 dX11_does_61 rfl rfl rfl ?_
        refine e_r_bipush (pc' := 64) dX11_does_62 rfl (by decide) ?_
        refine e_r_iald (j9 := 55) (pc' := 65) hq0 kq0 (by decide) (by decide) rfl dX11_does_64 rfl ?_
        obtain ⟨ht15, hf16⟩ := h
        refine e_r_icmp_lt (tgt := 79) (pc' := 68) dX11_does_65 rfl rfl (fun c => ?_) (fun c => ?_)
        · have h := ht15 c
          refine e_r_iconst (pc' := 80) dX11_does_79 rfl (by decide) ?_
          exact e_r_iret (ty := .boolean) rfl (e_nZ (by decide)) dX11_does_80 h
        · have h := hf16 c
          refine e_r_aload_n (pc' := 69) zq0 dX11_does_68 rfl rfl rfl ?_
          refine e_r_bipush (pc' := 71) dX11_does_69 rfl (by decide) ?_
          refine e_r_iload_n (pc' := 72) dX11_does_71 rfl rfl rfl ?_
          refine e_r_iadd (pc' := 73) dX11_does_72 rfl ?_
          obtain ⟨hb17, h⟩ := h
          refine e_r_iald (j9 := (e_w (30 + (M q1 1))).toNat) (pc' := 74) hq0 kq0 hb17.1 hb17.2 rfl dX11_does_73 rfl ?_
          refine e_r_bipush (pc' := 76) dX11_does_74 rfl (by decide) ?_
          obtain ⟨ht18, hf19⟩ := h
          refine e_r_icmp_ne (tgt := 81) (pc' := 79) dX11_does_76 rfl rfl (fun c => ?_) (fun c => ?_)
          · have h := ht18 c
            refine e_r_aload_n (pc' := 82) zq0 dX11_does_81 rfl rfl rfl ?_
            refine e_r_bipush (pc' := 84) dX11_does_82 rfl (by decide) ?_
            refine e_r_iload_n (pc' := 85) dX11_does_84 rfl rfl rfl ?_
            refine e_r_iadd (pc' := 86) dX11_does_85 rfl ?_
            refine e_r_dup2 (pc' := 87) rfl rfl dX11_does_86 rfl ?_
            obtain ⟨hb20, h⟩ := h
            refine e_r_iald (j9 := (e_w (30 + (M q1 1))).toNat) (pc' := 88) hq0 kq0 hb20.1 hb20.2 rfl dX11_does_87 rfl ?_
            refine e_r_iconst (pc' := 89) dX11_does_88 rfl (by decide) ?_
            refine e_r_iadd (pc' := 90) dX11_does_89 rfl ?_
            obtain ⟨hb21, h⟩ := h
            refine e_r_iast (j9 := (e_w (30 + (M q1 1))).toNat) (pc' := 91) hq0 kq0 hb21.1 hb21.2 rfl dX11_does_90 rfl ?_
            refine e_r_iconst (pc' := 92) dX11_does_91 rfl (by decide) ?_
            exact e_r_iret (ty := .boolean) rfl (e_nZ (by decide)) dX11_does_92 h
          · have h := hf19 c
            refine e_r_iconst (pc' := 80) dX11_does_79 rfl (by decide) ?_
            exact e_r_iret (ty := .boolean) rfl (e_nZ (by decide)) dX11_does_80 h
  · have h := hd4 c
    refine e_r_aload_n (pc' := 94) zq0 dX11_does_93 rfl rfl rfl ?_
    refine e_r_bipush (pc' := 96) dX11_does_94 rfl (by decide) ?_
    refine e_r_iald (j9 := 55) (pc' := 97) hq0 kq0 (by decide) (by decide) rfl dX11_does_96 rfl ?_
    refine e_r_sipush (pc' := 100) dX11_does_97 rfl (by decide) ?_
    obtain ⟨ht22, hf23⟩ := h
    refine e_r_icmp_lt (tgt := 105) (pc' := 103) dX11_does_100 rfl rfl (fun c => ?_) (fun c => ?_)
    · have h := ht22 c
      refine e_r_aload_n (pc' := 106) (by decide) dX11_does_105 rfl rfl rfl ?_
      refine e_r_aload_n (pc' := 107) zq0 dX11_does_106 rfl rfl rfl ?_
      obtain ⟨N24, he25, h⟩ := h
      refine e_r_callV (a := 64) (av := [.inr (.inr q0)]) (st := []) mqYX11_weekEnds ml_RX11_298 cl_11 rfl (Nat.le_of_ble_eq_true rfl) (by simp [e_cat]) rfl rfl rfl dX11_does_107 (pc' := 110) rfl he25 ⟨Nat.le_refl _, Nat.le_refl _⟩ hmo ?_
      refine e_r_iconst (pc' := 111) dX11_does_110 rfl (by decide) ?_
      exact e_r_iret (ty := .boolean) rfl (e_nZ (by decide)) dX11_does_111 h
    · have h := hf23 c
      refine e_r_iconst (pc' := 104) dX11_does_103 rfl (by decide) ?_
      exact e_r_iret (ty := .boolean) rfl (e_nZ (by decide)) dX11_does_104 h
theorem wp_X11_goes_0 {X : e_X} {d gn : Nat} {o : e_O} (M : e_M) (p1 p2 : Int) (h : e_G X (d + 1) YX11_goes 2 [some (.inr (.inr 64)), some (.inl p1), some (.inl p2), some (.inl p1), none] [] (557, gn, e_RF, M) o) : e_G X (d + 1) YX11_goes 0 [some (.inr (.inr 64)), some (.inl p1), some (.inl p2), none, none] [] (557, gn, e_RF, M) o := by
  refine e_r_iload_n (pc' := 1) dX11_goes_0 rfl rfl rfl ?_
  refine e_r_istore_n (pc' := 2) (loc' := [some (.inr (.inr 64)), some (.inl p1), some (.inl p2), some (.inl p1), none]) dX11_goes_1 rfl rfl rfl rfl rfl ?_
  exact h
theorem wp_X11_goes_2 {X : e_X} {d gn : Nat} {o : e_O} (M : e_M) (p1 p2 v3 : Int) (hmo : e_mn (557, gn, e_RF, M) o.2) (h : ((p2 ≤ v3 → (o = (.inl none, (557, gn, e_RF, M)))) ∧ (¬ (p2 ≤ v3) → ((200 ≤ (M 64 40) → (o = (.inl none, (557, gn, e_RF, M)))) ∧ (¬ (200 ≤ (M 64 40)) → ((0 ≤ v3 ∧ v3 < 80) ∧ ((¬ ((e_up M 64 40 (e_w ((M 64 40) + 1))) (452 + v3.toNat) 0) = 4 → ((0 ≤ v3 ∧ v3 < 80) ∧ (∃ (r10 : Int) (N9 : e_M), e_E X d YX11_does [.inr (.inr 64), .inr (.inr 532), .inr (.inr (452 + v3.toNat))] (557, gn, e_RF, (e_up M 64 40 (e_w ((M 64 40) + 1)))) (.inl (some (.inl r10)), (557, gn, e_RF, N9)) ∧ ((r10 = 0 → e_G X (d + 1) YX11_goes 120 [some (.inr (.inr 64)), some (.inl p1), some (.inl p2), some (.inl v3), some (.inl r10)] [.inl 0, .inl (N9 64 41), .inr (.inr 64)] (557, gn, e_RF, N9) o) ∧ (¬ (r10 = 0) → e_G X (d + 1) YX11_goes 120 [some (.inr (.inr 64)), some (.inl p1), some (.inl p2), some (.inl v3), some (.inl r10)] [.inl 1, .inl (N9 64 41), .inr (.inr 64)] (557, gn, e_RF, N9) o))))) ∧ (((e_up M 64 40 (e_w ((M 64 40) + 1))) (452 + v3.toNat) 0) = 4 → e_G X (d + 1) YX11_goes 42 [some (.inr (.inr 64)), some (.inl p1), some (.inl p2), some (.inl v3), some (.inl 0)] [] (557, gn, e_RF, (e_up M 64 40 (e_w ((M 64 40) + 1)))) o)))))))) : e_G X (d + 1) YX11_goes 2 [some (.inr (.inr 64)), some (.inl p1), some (.inl p2), some (.inl v3), none] [] (557, gn, e_RF, M) o := by
  refine e_r_iload_n (pc' := 3) dX11_goes_2 rfl rfl rfl ?_
  refine e_r_iload_n (pc' := 4) dX11_goes_3 rfl rfl rfl ?_
  obtain ⟨ht1, hf2⟩ := h
  refine e_r_icmp_ge (tgt := 155) (pc' := 7) dX11_goes_4 rfl rfl (fun c => ?_) (fun c => ?_)
  · have h := ht1 c
    exact e_r_vret rfl dX11_goes_155 h
  · have h := hf2 c
    refine e_r_aload_n (pc' := 8) (by decide) dX11_goes_7 rfl rfl rfl ?_
    refine e_r_geti (k := 40) (pc' := 11) cl_11 rfl (Nat.le_of_ble_eq_true rfl) rfl rfl fl_RX11_302 dX11_goes_8 rfl ?_
    refine e_r_sipush (pc' := 14) dX11_goes_11 rfl (by decide) ?_
    obtain ⟨ht3, hf4⟩ := h
    refine e_r_icmp_ge (tgt := 155) (pc' := 17) dX11_goes_14 rfl rfl (fun c => ?_) (fun c => ?_)
    · have h := ht3 c
      exact e_r_vret rfl dX11_goes_155 h
    · have h := hf4 c
      refine e_r_aload_n (pc' := 18) (by decide) dX11_goes_17 rfl rfl rfl ?_
      refine e_r_dup (pc' := 19) rfl dX11_goes_18 rfl ?_
      refine e_r_geti (k := 40) (pc' := 22) cl_11 rfl (Nat.le_of_ble_eq_true rfl) rfl rfl fl_RX11_302 dX11_goes_19 rfl ?_
      refine e_r_iconst (pc' := 23) dX11_goes_22 rfl (by decide) ?_
      refine e_r_iadd (pc' := 24) dX11_goes_23 rfl ?_
      refine e_r_puti (k := 40) (pc' := 27) cl_11 rfl (Nat.le_of_ble_eq_true rfl) rfl rfl fl_RX11_302 rfl (by decide +kernel) dX11_goes_24 rfl ?_
      refine e_r_aload_n (pc' := 28) (by decide) dX11_goes_27 rfl rfl rfl ?_
      refine e_r_getr (k := 29) (q := 451) (pc' := 31) cl_11 rfl (Nat.le_of_ble_eq_true rfl) rfl rfl fl_RX11_70 rfl (Nat.le_of_ble_eq_true rfl) dX11_goes_28 rfl ?_
      refine e_r_iload_n (pc' := 32) dX11_goes_31 rfl rfl rfl ?_
      obtain ⟨hb5, h⟩ := h
      refine e_r_aldr (q := (452 + v3.toNat)) (pc' := 33) rfl (Nat.le_of_ble_eq_true rfl) hb5.1 hb5.2 rfl (sh_451 hb5.1 hb5.2).2.1 dX11_goes_32 rfl ?_
      refine e_r_iconst (pc' := 34) dX11_goes_33 rfl (by decide) ?_
      refine e_r_iald (j9 := 0) (pc' := 35) (sh_451 hb5.1 hb5.2).1 (sh_451 hb5.1 hb5.2).2.1 (by decide) (by decide) rfl dX11_goes_34 rfl ?_
      refine e_r_iconst (pc' := 36) dX11_goes_35 rfl (by decide) ?_
      obtain ⟨ht6, hf7⟩ := h
      refine e_r_icmp_ne (tgt := 89) (pc' := 39) dX11_goes_36 rfl rfl (fun c => ?_) (fun c => ?_)
      · have h := ht6 c
        refine e_r_aload_n (pc' := 90) (by decide) dX11_goes_89 rfl rfl rfl ?_
        refine e_r_aload_n (pc' := 91) (by decide) dX11_goes_90 rfl rfl rfl ?_
        refine e_r_getr (k := 31) (q := 532) (pc' := 94) cl_11 rfl (Nat.le_of_ble_eq_true rfl) rfl rfl fl_RX11_73 rfl (Nat.le_of_ble_eq_true rfl) dX11_goes_91 rfl ?_
        refine e_r_aload_n (pc' := 95) (by decide) dX11_goes_94 rfl rfl rfl ?_
        refine e_r_getr (k := 29) (q := 451) (pc' := 98) cl_11 rfl (Nat.le_of_ble_eq_true rfl) rfl rfl fl_RX11_70 rfl (Nat.le_of_ble_eq_true rfl) dX11_goes_95 rfl ?_
        refine e_r_iload_n (pc' := 99) dX11_goes_98 rfl rfl rfl ?_
        obtain ⟨hb8, h⟩ := h
        refine e_r_aldr (q := (452 + v3.toNat)) (pc' := 100) rfl (Nat.le_of_ble_eq_true rfl) hb8.1 hb8.2 rfl (sh_451 hb8.1 hb8.2).2.1 dX11_goes_99 rfl ?_
        obtain ⟨r10, N9, he11, h⟩ := h
        refine e_r_callV (a := 64) (av := [.inr (.inr 532), .inr (.inr (452 + v3.toNat))]) (st := []) mqYX11_does ml_RX11_308 cl_11 rfl (Nat.le_of_ble_eq_true rfl) (by simp [e_cat]) rfl rfl rfl dX11_goes_100 (pc' := 103) rfl he11 ⟨Nat.le_refl _, Nat.le_refl _⟩ hmo ?_
        refine e_r_istore (pc' := 105) (loc' := [some (.inr (.inr 64)), some (.inl p1), some (.inl p2), some (.inl v3), some (.inl r10)]) dX11_goes_103 rfl rfl rfl rfl ?_
        refine e_r_aload_n (pc' := 106) (by decide) dX11_goes_105 rfl rfl rfl ?_
        refine e_r_dup (pc' := 107) rfl dX11_goes_106 rfl ?_
        refine e_r_geti (k := 41) (pc' := 110) cl_11 rfl (Nat.le_of_ble_eq_true rfl) rfl rfl fl_RX11_312 dX11_goes_107 rfl ?_
        refine e_r_iload (pc' := 112) dX11_goes_110 rfl rfl ?_
        obtain ⟨ht12, hf13⟩ := h
        refine e_r_if_eq (tgt := 119) (pc' := 115) dX11_goes_112 rfl rfl (fun c => ?_) (fun c => ?_)
        · have h := ht12 c
          refine e_r_iconst (pc' := 120) dX11_goes_119 rfl (by decide) ?_
          exact h
        · have h := hf13 c
          refine e_r_iconst (pc' := 116) dX11_goes_115 rfl (by decide) ?_
          refine e_r_goto (pc' := 120) dX11_goes_116 rfl ?_
          exact h
      · have h := hf7 c
        refine e_r_iconst (pc' := 40) dX11_goes_39 rfl (by decide) ?_
        refine e_r_istore (pc' := 42) (loc' := [some (.inr (.inr 64)), some (.inl p1), some (.inl p2), some (.inl v3), some (.inl 0)]) dX11_goes_40 rfl rfl rfl rfl ?_
        exact h
theorem wp_X11_goes_42 {X : e_X} {d gn : Nat} {o : e_O} (M : e_M) (p1 p2 v3 v4 : Int) (hmo : e_mn (557, gn, e_RF, M) o.2) (h : ((0 ≤ v3 ∧ v3 < 80) ∧ (((M (452 + v3.toNat) 1) ≤ v4 → e_G X (d + 1) YX11_goes 86 [some (.inr (.inr 64)), some (.inl p1), some (.inl p2), some (.inl v3), some (.inl v4)] [] (557, gn, e_RF, M) o) ∧ (¬ ((M (452 + v3.toNat) 1) ≤ v4) → ((200 ≤ (M 64 40) → e_G X (d + 1) YX11_goes 86 [some (.inr (.inr 64)), some (.inl p1), some (.inl p2), some (.inl v3), some (.inl v4)] [] (557, gn, e_RF, M) o) ∧ (¬ (200 ≤ (M 64 40)) → ((0 ≤ v3 ∧ v3 < 80) ∧ (∃ N7 : e_M, e_E X d YX11_goes [.inr (.inr 64), .inl (e_w (v3 + 1)), .inl (M (452 + v3.toNat) 3)] (557, gn, e_RF, M) (.inl none, (557, gn, e_RF, N7)) ∧ e_G X (d + 1) YX11_goes 42 [some (.inr (.inr 64)), some (.inl p1), some (.inl p2), some (.inl v3), some (.inl (e_w (v4 + 1)))] [] (557, gn, e_RF, N7) o)))))))) : e_G X (d + 1) YX11_goes 42 [some (.inr (.inr 64)), some (.inl p1), some (.inl p2), some (.inl v3), some (.inl v4)] [] (557, gn, e_RF, M) o := by
  refine e_r_iload (pc' := 44) dX11_goes_42 rfl rfl ?_
  refine e_r_aload_n (pc' := 45) (by decide) dX11_goes_44 rfl rfl rfl ?_
  refine e_r_getr (k := 29) (q := 451) (pc' := 48) cl_11 rfl (Nat.le_of_ble_eq_true rfl) rfl rfl fl_RX11_70 rfl (Nat.le_of_ble_eq_true rfl) dX11_goes_45 rfl ?_
  refine e_r_iload_n (pc' := 49) dX11_goes_48 rfl rfl rfl ?_
  obtain ⟨hb1, h⟩ := h
  refine e_r_aldr (q := (452 + v3.toNat)) (pc' := 50) rfl (Nat.le_of_ble_eq_true rfl) hb1.1 hb1.2 rfl (sh_451 hb1.1 hb1.2).2.1 dX11_goes_49 rfl ?_
  refine e_r_iconst (pc' := 51) dX11_goes_50 rfl (by decide) ?_
  refine e_r_iald (j9 := 1) (pc' := 52) (sh_451 hb1.1 hb1.2).1 (sh_451 hb1.1 hb1.2).2.1 (by decide) (by decide) rfl dX11_goes_51 rfl ?_
  obtain ⟨ht2, hf3⟩ := h
  refine e_r_icmp_ge (tgt := 86) (pc' := 55) dX11_goes_52 rfl rfl (fun c => ?_) (fun c => ?_)
  · have h := ht2 c
    exact h
  · have h := hf3 c
    refine e_r_aload_n (pc' := 56) (by decide) dX11_goes_55 rfl rfl rfl ?_
    refine e_r_geti (k := 40) (pc' := 59) cl_11 rfl (Nat.le_of_ble_eq_true rfl) rfl rfl fl_RX11_302 dX11_goes_56 rfl ?_
    refine e_r_sipush (pc' := 62) dX11_goes_59 rfl (by decide) ?_
    obtain ⟨ht4, hf5⟩ := h
    refine e_r_icmp_ge (tgt := 86) (pc' := 65) dX11_goes_62 rfl rfl (fun c => ?_) (fun c => ?_)
    · have h := ht4 c
      exact h
    · have h := hf5 c
      refine e_r_aload_n (pc' := 66) (by decide) dX11_goes_65 rfl rfl rfl ?_
      refine e_r_iload_n (pc' := 67) dX11_goes_66 rfl rfl rfl ?_
      refine e_r_iconst (pc' := 68) dX11_goes_67 rfl (by decide) ?_
      refine e_r_iadd (pc' := 69) dX11_goes_68 rfl ?_
      refine e_r_aload_n (pc' := 70) (by decide) dX11_goes_69 rfl rfl rfl ?_
      refine e_r_getr (k := 29) (q := 451) (pc' := 73) cl_11 rfl (Nat.le_of_ble_eq_true rfl) rfl rfl fl_RX11_70 rfl (Nat.le_of_ble_eq_true rfl) dX11_goes_70 rfl ?_
      refine e_r_iload_n (pc' := 74) dX11_goes_73 rfl rfl rfl ?_
      obtain ⟨hb6, h⟩ := h
      refine e_r_aldr (q := (452 + v3.toNat)) (pc' := 75) rfl (Nat.le_of_ble_eq_true rfl) hb6.1 hb6.2 rfl (sh_451 hb6.1 hb6.2).2.1 dX11_goes_74 rfl ?_
      refine e_r_iconst (pc' := 76) dX11_goes_75 rfl (by decide) ?_
      refine e_r_iald (j9 := 3) (pc' := 77) (sh_451 hb6.1 hb6.2).1 (sh_451 hb6.1 hb6.2).2.1 (by decide) (by decide) rfl dX11_goes_76 rfl ?_
      obtain ⟨N7, he8, h⟩ := h
      refine e_r_callV (a := 64) (av := [.inl (e_w (v3 + 1)), .inl (M (452 + v3.toNat) 3)]) (st := []) mqYX11_goes ml_RX11_305 cl_11 rfl (Nat.le_of_ble_eq_true rfl) (by simp [e_cat]) rfl rfl rfl dX11_goes_77 (pc' := 80) rfl he8 ⟨Nat.le_refl _, Nat.le_refl _⟩ hmo ?_
      refine e_r_iinc (pc' := 83) (loc' := [some (.inr (.inr 64)), some (.inl p1), some (.inl p2), some (.inl v3), some (.inl (e_w (v4 + 1)))]) dX11_goes_80 rfl rfl rfl rfl rfl ?_
      refine e_r_goto (pc' := 42) dX11_goes_83 rfl ?_
      exact h
theorem wp_X11_goes_86 {X : e_X} {d gn : Nat} {o : e_O} (M : e_M) (p1 p2 v3 v4 : Int) (h : e_G X (d + 1) YX11_goes 143 [some (.inr (.inr 64)), some (.inl p1), some (.inl p2), some (.inl v3), some (.inl v4)] [] (557, gn, e_RF, M) o) : e_G X (d + 1) YX11_goes 86 [some (.inr (.inr 64)), some (.inl p1), some (.inl p2), some (.inl v3), some (.inl v4)] [] (557, gn, e_RF, M) o := by
  refine e_r_goto (pc' := 143) dX11_goes_86 rfl ?_
  exact h
theorem wp_X11_goes_143 {X : e_X} {d gn : Nat} {o : e_O} (M : e_M) (p1 p2 v3 v4 : Int) (h : ((0 ≤ v3 ∧ v3 < 80) ∧ e_G X (d + 1) YX11_goes 2 [some (.inr (.inr 64)), some (.inl p1), some (.inl p2), some (.inl (M (452 + v3.toNat) 3)), none] [] (557, gn, e_RF, M) o)) : e_G X (d + 1) YX11_goes 143 [some (.inr (.inr 64)), some (.inl p1), some (.inl p2), some (.inl v3), some (.inl v4)] [] (557, gn, e_RF, M) o := by
  refine e_r_aload_n (pc' := 144) (by decide) dX11_goes_143 rfl rfl rfl ?_
  refine e_r_getr (k := 29) (q := 451) (pc' := 147) cl_11 rfl (Nat.le_of_ble_eq_true rfl) rfl rfl fl_RX11_70 rfl (Nat.le_of_ble_eq_true rfl) dX11_goes_144 rfl ?_
  refine e_r_iload_n (pc' := 148) dX11_goes_147 rfl rfl rfl ?_
  obtain ⟨hb1, h⟩ := h
  refine e_r_aldr (q := (452 + v3.toNat)) (pc' := 149) rfl (Nat.le_of_ble_eq_true rfl) hb1.1 hb1.2 rfl (sh_451 hb1.1 hb1.2).2.1 dX11_goes_148 rfl ?_
  refine e_r_iconst (pc' := 150) dX11_goes_149 rfl (by decide) ?_
  refine e_r_iald (j9 := 3) (pc' := 151) (sh_451 hb1.1 hb1.2).1 (sh_451 hb1.1 hb1.2).2.1 (by decide) (by decide) rfl dX11_goes_150 rfl ?_
  refine e_r_istore_n (pc' := 152) (loc' := [some (.inr (.inr 64)), some (.inl p1), some (.inl p2), some (.inl (M (452 + v3.toNat) 3)), some (.inl v4)]) dX11_goes_151 rfl rfl rfl rfl rfl ?_
  refine e_r_goto (pc' := 2) dX11_goes_152 rfl ?_
  exact e_forget (m := [true, true, true, true, false]) h rfl
theorem wp_X11_goes_120 {X : e_X} {d gn : Nat} {o : e_O} (M : e_M) (p1 p2 v3 v4 w0 w1 : Int) (h : ((v4 = 0 → e_G X (d + 1) YX11_goes 143 [some (.inr (.inr 64)), some (.inl p1), some (.inl p2), some (.inl v3), some (.inl v4)] [] (557, gn, e_RF, (e_up (e_up M 64 41 (e_w (w1 + w0))) 64 37 (e_w (((e_up M 64 41 (e_w (w1 + w0))) 64 37) + 1)))) o) ∧ (¬ (v4 = 0) → e_G X (d + 1) YX11_goes 143 [some (.inr (.inr 64)), some (.inl p1), some (.inl p2), some (.inl v3), some (.inl v4)] [] (557, gn, e_RF, (e_up (e_up M 64 41 (e_w (w1 + w0))) 64 37 (e_w (((e_up M 64 41 (e_w (w1 + w0))) 64 37) + 0)))) o))) : e_G X (d + 1) YX11_goes 120 [some (.inr (.inr 64)), some (.inl p1), some (.inl p2), some (.inl v3), some (.inl v4)] [.inl w0, .inl w1, .inr (.inr 64)] (557, gn, e_RF, M) o := by
  refine e_r_iadd (pc' := 121) dX11_goes_120 rfl ?_
  refine e_r_puti (k := 41) (pc' := 124) cl_11 rfl (Nat.le_of_ble_eq_true rfl) rfl rfl fl_RX11_312 rfl (by decide +kernel) dX11_goes_121 rfl ?_
  refine e_r_aload_n (pc' := 125) (by decide) dX11_goes_124 rfl rfl rfl ?_
  refine e_r_dup (pc' := 126) rfl dX11_goes_125 rfl ?_
  refine e_r_geti (k := 37) (pc' := 129) cl_11 rfl (Nat.le_of_ble_eq_true rfl) rfl rfl fl_RX11_199 dX11_goes_126 rfl ?_
  refine e_r_iload (pc' := 131) dX11_goes_129 rfl rfl ?_
  obtain ⟨ht1, hf2⟩ := h
  refine e_r_if_eq (tgt := 138) (pc' := 134) dX11_goes_131 rfl rfl (fun c => ?_) (fun c => ?_)
  · have h := ht1 c
    refine e_r_iconst (pc' := 139) dX11_goes_138 rfl (by decide) ?_
    refine e_r_iadd (pc' := 140) dX11_goes_139 rfl ?_
    refine e_r_puti (k := 37) (pc' := 143) cl_11 rfl (Nat.le_of_ble_eq_true rfl) rfl rfl fl_RX11_199 rfl (by decide +kernel) dX11_goes_140 rfl ?_
    exact h
  · have h := hf2 c
    refine e_r_iconst (pc' := 135) dX11_goes_134 rfl (by decide) ?_
    refine e_r_goto (pc' := 139) dX11_goes_135 rfl ?_
    refine e_r_iadd (pc' := 140) dX11_goes_139 rfl ?_
    refine e_r_puti (k := 37) (pc' := 143) cl_11 rfl (Nat.le_of_ble_eq_true rfl) rfl rfl fl_RX11_199 rfl (by decide +kernel) dX11_goes_140 rfl ?_
    exact h
theorem wp_X11_work_0 {X : e_X} {d gn : Nat} {o : e_O} (M : e_M) (p1 : Int) (hmo : e_mn (557, gn, e_RF, M) o.2) (h : (∃ (r2 : Int) (N1 : e_M), e_E X d YX11_in [.inl p1, .inl 0, .inl ((e_up M 64 0 0) 64 1)] (557, gn, e_RF, (e_up M 64 0 0)) (.inl (some (.inl r2)), (557, gn, e_RF, N1)) ∧ ((r2 = 0 → e_G X (d + 1) YX11_work 25 [some (.inr (.inr 64)), some (.inl p1)] [.inr (.inr 64)] (557, gn, e_RF, N1) o) ∧ (¬ (r2 = 0) → ((p1 ≤ 150 → e_G X (d + 1) YX11_work 30 [some (.inr (.inr 64)), some (.inl p1)] [.inl 0, .inr (.inr 64)] (557, gn, e_RF, N1) o) ∧ (¬ (p1 ≤ 150) → e_G X (d + 1) YX11_work 25 [some (.inr (.inr 64)), some (.inl p1)] [.inr (.inr 64)] (557, gn, e_RF, N1) o)))))) : e_G X (d + 1) YX11_work 0 [some (.inr (.inr 64)), some (.inl p1)] [] (557, gn, e_RF, M) o := by
  refine e_r_aload_n (pc' := 1) (by decide) dX11_work_0 rfl rfl rfl ?_
  refine e_r_iconst (pc' := 2) dX11_work_1 rfl (by decide) ?_
  refine e_r_puti (k := 0) (pc' := 5) cl_11 rfl (Nat.le_of_ble_eq_true rfl) rfl rfl fl_RX11_97 rfl (by decide +kernel) dX11_work_2 rfl ?_
  refine e_r_aload_n (pc' := 6) (by decide) dX11_work_5 rfl rfl rfl ?_
  refine e_r_iload_n (pc' := 7) dX11_work_6 rfl rfl rfl ?_
  refine e_r_iconst (pc' := 8) dX11_work_7 rfl (by decide) ?_
  refine e_r_aload_n (pc' := 9) (by decide) dX11_work_8 rfl rfl rfl ?_
  refine e_r_geti (k := 1) (pc' := 12) cl_11 rfl (Nat.le_of_ble_eq_true rfl) rfl rfl fl_RX11_100 dX11_work_9 rfl ?_
  obtain ⟨r2, N1, he3, h⟩ := h
  refine e_r_callS (av := [.inl p1, .inl 0, .inl ((e_up M 64 0 0) 64 1)]) (st := [.inr (.inr 64)]) mqYX11_in ml_RX11_131 (by simp [e_cat]) rfl rfl rfl dX11_work_12 (pc' := 15) rfl he3 ⟨Nat.le_refl _, Nat.le_refl _⟩ hmo ?_
  obtain ⟨ht4, hf5⟩ := h
  refine e_r_if_eq (tgt := 25) (pc' := 18) dX11_work_15 rfl rfl (fun c => ?_) (fun c => ?_)
  · have h := ht4 c
    exact h
  · have h := hf5 c
    refine e_r_iload_n (pc' := 19) dX11_work_18 rfl rfl rfl ?_
    refine e_r_sipush (pc' := 22) dX11_work_19 rfl (by decide) ?_
    obtain ⟨ht6, hf7⟩ := h
    refine e_r_icmp_le (tgt := 29) (pc' := 25) dX11_work_22 rfl rfl (fun c => ?_) (fun c => ?_)
    · have h := ht6 c
      refine e_r_iconst (pc' := 30) dX11_work_29 rfl (by decide) ?_
      exact h
    · have h := hf7 c
      exact h
theorem wp_X11_work_30 {X : e_X} {d gn : Nat} {o : e_O} (M : e_M) (p1 w0 : Int) (hmo : e_mn (557, gn, e_RF, M) o.2) (h : (∃ (r2 : Int) (N1 : e_M), e_E X d YX11_bad [.inr (.inr 64), .inl w0, .inl 1, .inl 1] (557, gn, e_RF, M) (.inl (some (.inl r2)), (557, gn, e_RF, N1)) ∧ ((r2 = 0 → ((¬ (N1 64 36) = 16 → (∃ N8 : e_M, e_E X d YX11_starts [.inr (.inr 64), .inl p1] (557, gn, e_RF, N1) (.inl none, (557, gn, e_RF, N8)) ∧ e_G X (d + 1) YX11_work 72 [some (.inr (.inr 64)), some (.inl p1)] [] (557, gn, e_RF, (e_up N8 64 30 0)) o)) ∧ ((N1 64 36) = 16 → (o = (.inl (some (.inl (-20))), (557, gn, e_RF, (e_up (e_up N1 64 1 0) 64 3 (-1)))))))) ∧ (¬ (r2 = 0) → (o = (.inl (some (.inl 0)), (557, gn, e_RF, N1))))))) : e_G X (d + 1) YX11_work 30 [some (.inr (.inr 64)), some (.inl p1)] [.inl w0, .inr (.inr 64)] (557, gn, e_RF, M) o := by
  refine e_r_iconst (pc' := 31) dX11_work_30 rfl (by decide) ?_
  refine e_r_iconst (pc' := 32) dX11_work_31 rfl (by decide) ?_
  obtain ⟨r2, N1, he3, h⟩ := h
  refine e_r_callV (a := 64) (av := [.inl w0, .inl 1, .inl 1]) (st := []) mqYX11_bad ml_RX11_173 cl_11 rfl (Nat.le_of_ble_eq_true rfl) (by simp [e_cat]) rfl rfl rfl dX11_work_32 (pc' := 35) rfl he3 ⟨Nat.le_refl _, Nat.le_refl _⟩ hmo ?_
  obtain ⟨ht4, hf5⟩ := h
  refine e_r_if_eq (tgt := 40) (pc' := 38) dX11_work_35 rfl rfl (fun c => ?_) (fun c => ?_)
  · have h := ht4 c
    refine e_r_aload_n (pc' := 41) (by decide) dX11_work_40 rfl rfl rfl ?_
    refine e_r_geti (k := 36) (pc' := 44) cl_11 rfl (Nat.le_of_ble_eq_true rfl) rfl rfl fl_RX11_196 dX11_work_41 rfl ?_
    refine e_r_bipush (pc' := 46) dX11_work_44 rfl (by decide) ?_
    obtain ⟨ht6, hf7⟩ := h
    refine e_r_icmp_ne (tgt := 62) (pc' := 49) dX11_work_46 rfl rfl (fun c => ?_) (fun c => ?_)
    · have h := ht6 c
      refine e_r_aload_n (pc' := 63) (by decide) dX11_work_62 rfl rfl rfl ?_
      refine e_r_iload_n (pc' := 64) dX11_work_63 rfl rfl rfl ?_
      obtain ⟨N8, he9, h⟩ := h
      refine e_r_callV (a := 64) (av := [.inl p1]) (st := []) mqYX11_starts ml_RX11_177 cl_11 rfl (Nat.le_of_ble_eq_true rfl) (by simp [e_cat]) rfl rfl rfl dX11_work_64 (pc' := 67) rfl he9 ⟨Nat.le_refl _, Nat.le_refl _⟩ hmo ?_
      refine e_r_aload_n (pc' := 68) (by decide) dX11_work_67 rfl rfl rfl ?_
      refine e_r_iconst (pc' := 69) dX11_work_68 rfl (by decide) ?_
      refine e_r_puti (k := 30) (pc' := 72) cl_11 rfl (Nat.le_of_ble_eq_true rfl) rfl rfl fl_RX11_249 rfl (by decide +kernel) dX11_work_69 rfl ?_
      exact h
    · have h := hf7 c
      refine e_r_aload_n (pc' := 50) (by decide) dX11_work_49 rfl rfl rfl ?_
      refine e_r_iconst (pc' := 51) dX11_work_50 rfl (by decide) ?_
      refine e_r_puti (k := 1) (pc' := 54) cl_11 rfl (Nat.le_of_ble_eq_true rfl) rfl rfl fl_RX11_100 rfl (by decide +kernel) dX11_work_51 rfl ?_
      refine e_r_aload_n (pc' := 55) (by decide) dX11_work_54 rfl rfl rfl ?_
      refine e_r_iconst (pc' := 56) dX11_work_55 rfl (by decide) ?_
      refine e_r_puti (k := 3) (pc' := 59) cl_11 rfl (Nat.le_of_ble_eq_true rfl) rfl rfl fl_RX11_9 rfl (by decide +kernel) dX11_work_56 rfl ?_
      refine e_r_bipush (pc' := 61) dX11_work_59 rfl (by decide) ?_
      exact e_r_iret (ty := .int) rfl (e_nI _) dX11_work_61 h
  · have h := hf5 c
    refine e_r_iconst (pc' := 39) dX11_work_38 rfl (by decide) ?_
    exact e_r_iret (ty := .int) rfl (e_nI _) dX11_work_39 h
theorem wp_X11_work_72 {X : e_X} {d gn : Nat} {o : e_O} (M : e_M) (p1 : Int) (hmo : e_mn (557, gn, e_RF, M) o.2) (h : ((¬ (M 64 5) = 0 → e_G X (d + 1) YX11_work 101 [some (.inr (.inr 64)), some (.inl p1)] [] (557, gn, e_RF, M) o) ∧ ((M 64 5) = 0 → (((M 64 2) ≤ (M 64 4) → e_G X (d + 1) YX11_work 101 [some (.inr (.inr 64)), some (.inl p1)] [] (557, gn, e_RF, M) o) ∧ (¬ ((M 64 2) ≤ (M 64 4)) → (∃ N5 : e_M, e_E X d YX11_readsStep [.inr (.inr 64)] (557, gn, e_RF, M) (.inl none, (557, gn, e_RF, N5)) ∧ (∃ N7 : e_M, e_E X d YX11_blanks [.inr (.inr 64)] (557, gn, e_RF, N5) (.inl none, (557, gn, e_RF, N7)) ∧ e_G X (d + 1) YX11_work 72 [some (.inr (.inr 64)), some (.inl p1)] [] (557, gn, e_RF, N7) o))))))) : e_G X (d + 1) YX11_work 72 [some (.inr (.inr 64)), some (.inl p1)] [] (557, gn, e_RF, M) o := by
  refine e_r_aload_n (pc' := 73) (by decide) dX11_work_72 rfl rfl rfl ?_
  refine e_r_geti (k := 5) (pc' := 76) cl_11 rfl (Nat.le_of_ble_eq_true rfl) rfl rfl fl_RX11_113 dX11_work_73 rfl ?_
  obtain ⟨ht1, hf2⟩ := h
  refine e_r_if_ne (tgt := 101) (pc' := 79) dX11_work_76 rfl rfl (fun c => ?_) (fun c => ?_)
  · have h := ht1 c
    exact h
  · have h := hf2 c
    refine e_r_aload_n (pc' := 80) (by decide) dX11_work_79 rfl rfl rfl ?_
    refine e_r_geti (k := 4) (pc' := 83) cl_11 rfl (Nat.le_of_ble_eq_true rfl) rfl rfl fl_RX11_106 dX11_work_80 rfl ?_
    refine e_r_aload_n (pc' := 84) (by decide) dX11_work_83 rfl rfl rfl ?_
    refine e_r_geti (k := 2) (pc' := 87) cl_11 rfl (Nat.le_of_ble_eq_true rfl) rfl rfl fl_RX11_103 dX11_work_84 rfl ?_
    obtain ⟨ht3, hf4⟩ := h
    refine e_r_icmp_ge (tgt := 101) (pc' := 90) dX11_work_87 rfl rfl (fun c => ?_) (fun c => ?_)
    · have h := ht3 c
      exact h
    · have h := hf4 c
      refine e_r_aload_n (pc' := 91) (by decide) dX11_work_90 rfl rfl rfl ?_
      obtain ⟨N5, he6, h⟩ := h
      refine e_r_callV (a := 64) (av := []) (st := []) mqYX11_readsStep ml_RX11_252 cl_11 rfl (Nat.le_of_ble_eq_true rfl) (by simp [e_cat]) rfl rfl rfl dX11_work_91 (pc' := 94) rfl he6 ⟨Nat.le_refl _, Nat.le_refl _⟩ hmo ?_
      refine e_r_aload_n (pc' := 95) (by decide) dX11_work_94 rfl rfl rfl ?_
      obtain ⟨N7, he8, h⟩ := h
      refine e_r_callV (a := 64) (av := []) (st := []) mqYX11_blanks ml_RX11_119 cl_11 rfl (Nat.le_of_ble_eq_true rfl) (by simp [e_cat]) rfl rfl rfl dX11_work_95 (pc' := 98) rfl he8 ⟨Nat.le_refl _, Nat.le_refl _⟩ hmo ?_
      refine e_r_goto (pc' := 72) dX11_work_98 rfl ?_
      exact h
theorem wp_X11_work_101 {X : e_X} {d gn : Nat} {o : e_O} (M : e_M) (p1 : Int) (hmo : e_mn (557, gn, e_RF, M) o.2) (h : (((M 64 5) = 0 → ((0 ≤ ((e_up M 64 3 (-1)) 64 36) ∧ ((e_up M 64 3 (-1)) 64 36) < 16) ∧ (∃ N4 : e_M, e_E X d YX11_copies [.inr (.inr 532), .inr (.inr (535 + ((e_up M 64 3 (-1)) 64 36).toNat))] (557, gn, e_RF, (e_up M 64 3 (-1))) (.inl none, (557, gn, e_RF, N4)) ∧ (∃ N6 : e_M, e_E X d YX11_goes [.inr (.inr 64), .inl 0, .inl ((e_up (e_up (e_up (e_up N4 64 36 (e_w ((N4 64 36) + 1))) 64 40 0) 64 41 0) 64 37 0) 64 30)] (557, gn, e_RF, (e_up (e_up (e_up (e_up N4 64 36 (e_w ((N4 64 36) + 1))) 64 40 0) 64 41 0) 64 37 0)) (.inl none, (557, gn, e_RF, N6)) ∧ (o = (.inl (some (.inl (N6 64 41))), (557, gn, e_RF, N6))))))) ∧ (¬ ((M 64 5) = 0) → (∃ (r9 : Int) (N8 : e_M), e_E X d YX11_ends [.inr (.inr 64)] (557, gn, e_RF, M) (.inl (some (.inl r9)), (557, gn, e_RF, N8)) ∧ (o = (.inl (some (.inl r9)), (557, gn, e_RF, N8))))))) : e_G X (d + 1) YX11_work 101 [some (.inr (.inr 64)), some (.inl p1)] [] (557, gn, e_RF, M) o := by
  refine e_r_aload_n (pc' := 102) (by decide) dX11_work_101 rfl rfl rfl ?_
  refine e_r_geti (k := 5) (pc' := 105) cl_11 rfl (Nat.le_of_ble_eq_true rfl) rfl rfl fl_RX11_113 dX11_work_102 rfl ?_
  obtain ⟨ht1, hf2⟩ := h
  refine e_r_if_eq (tgt := 113) (pc' := 108) dX11_work_105 rfl rfl (fun c => ?_) (fun c => ?_)
  · have h := ht1 c
    refine e_r_aload_n (pc' := 114) (by decide) dX11_work_113 rfl rfl rfl ?_
    refine e_r_iconst (pc' := 115) dX11_work_114 rfl (by decide) ?_
    refine e_r_puti (k := 3) (pc' := 118) cl_11 rfl (Nat.le_of_ble_eq_true rfl) rfl rfl fl_RX11_9 rfl (by decide +kernel) dX11_work_115 rfl ?_
    refine e_r_aload_n (pc' := 119) (by decide) dX11_work_118 rfl rfl rfl ?_
    refine e_r_getr (k := 31) (q := 532) (pc' := 122) cl_11 rfl (Nat.le_of_ble_eq_true rfl) rfl rfl fl_RX11_73 rfl (Nat.le_of_ble_eq_true rfl) dX11_work_119 rfl ?_
    refine e_r_aload_n (pc' := 123) (by decide) dX11_work_122 rfl rfl rfl ?_
    refine e_r_getr (k := 33) (q := 534) (pc' := 126) cl_11 rfl (Nat.le_of_ble_eq_true rfl) rfl rfl fl_RX11_79 rfl (Nat.le_of_ble_eq_true rfl) dX11_work_123 rfl ?_
    refine e_r_aload_n (pc' := 127) (by decide) dX11_work_126 rfl rfl rfl ?_
    refine e_r_geti (k := 36) (pc' := 130) cl_11 rfl (Nat.le_of_ble_eq_true rfl) rfl rfl fl_RX11_196 dX11_work_127 rfl ?_
    obtain ⟨hb3, h⟩ := h
    refine e_r_aldr (q := (535 + ((e_up M 64 3 (-1)) 64 36).toNat)) (pc' := 131) rfl (Nat.le_of_ble_eq_true rfl) hb3.1 hb3.2 rfl (sh_534 hb3.1 hb3.2).2.1 dX11_work_130 rfl ?_
    obtain ⟨N4, he5, h⟩ := h
    refine e_r_callS (av := [.inr (.inr 532), .inr (.inr (535 + ((e_up M 64 3 (-1)) 64 36).toNat))]) (st := []) mqYX11_copies ml_RX11_315 (by simp [e_cat]) rfl rfl rfl dX11_work_131 (pc' := 134) rfl he5 ⟨Nat.le_refl _, Nat.le_refl _⟩ hmo ?_
    refine e_r_aload_n (pc' := 135) (by decide) dX11_work_134 rfl rfl rfl ?_
    refine e_r_dup (pc' := 136) rfl dX11_work_135 rfl ?_
    refine e_r_geti (k := 36) (pc' := 139) cl_11 rfl (Nat.le_of_ble_eq_true rfl) rfl rfl fl_RX11_196 dX11_work_136 rfl ?_
    refine e_r_iconst (pc' := 140) dX11_work_139 rfl (by decide) ?_
    refine e_r_iadd (pc' := 141) dX11_work_140 rfl ?_
    refine e_r_puti (k := 36) (pc' := 144) cl_11 rfl (Nat.le_of_ble_eq_true rfl) rfl rfl fl_RX11_196 rfl (by decide +kernel) dX11_work_141 rfl ?_
    refine e_r_aload_n (pc' := 145) (by decide) dX11_work_144 rfl rfl rfl ?_
    refine e_r_iconst (pc' := 146) dX11_work_145 rfl (by decide) ?_
    refine e_r_puti (k := 40) (pc' := 149) cl_11 rfl (Nat.le_of_ble_eq_true rfl) rfl rfl fl_RX11_302 rfl (by decide +kernel) dX11_work_146 rfl ?_
    refine e_r_aload_n (pc' := 150) (by decide) dX11_work_149 rfl rfl rfl ?_
    refine e_r_iconst (pc' := 151) dX11_work_150 rfl (by decide) ?_
    refine e_r_puti (k := 41) (pc' := 154) cl_11 rfl (Nat.le_of_ble_eq_true rfl) rfl rfl fl_RX11_312 rfl (by decide +kernel) dX11_work_151 rfl ?_
    refine e_r_aload_n (pc' := 155) (by decide) dX11_work_154 rfl rfl rfl ?_
    refine e_r_iconst (pc' := 156) dX11_work_155 rfl (by decide) ?_
    refine e_r_puti (k := 37) (pc' := 159) cl_11 rfl (Nat.le_of_ble_eq_true rfl) rfl rfl fl_RX11_199 rfl (by decide +kernel) dX11_work_156 rfl ?_
    refine e_r_aload_n (pc' := 160) (by decide) dX11_work_159 rfl rfl rfl ?_
    refine e_r_iconst (pc' := 161) dX11_work_160 rfl (by decide) ?_
    refine e_r_aload_n (pc' := 162) (by decide) dX11_work_161 rfl rfl rfl ?_
    refine e_r_geti (k := 30) (pc' := 165) cl_11 rfl (Nat.le_of_ble_eq_true rfl) rfl rfl fl_RX11_249 dX11_work_162 rfl ?_
    obtain ⟨N6, he7, h⟩ := h
    refine e_r_callV (a := 64) (av := [.inl 0, .inl ((e_up (e_up (e_up (e_up N4 64 36 (e_w ((N4 64 36) + 1))) 64 40 0) 64 41 0) 64 37 0) 64 30)]) (st := []) mqYX11_goes ml_RX11_305 cl_11 rfl (Nat.le_of_ble_eq_true rfl) (by simp [e_cat]) rfl rfl rfl dX11_work_165 (pc' := 168) rfl he7 ⟨Nat.le_refl _, Nat.le_refl _⟩ hmo ?_
    refine e_r_aload_n (pc' := 169) (by decide) dX11_work_168 rfl rfl rfl ?_
    refine e_r_geti (k := 41) (pc' := 172) cl_11 rfl (Nat.le_of_ble_eq_true rfl) rfl rfl fl_RX11_312 dX11_work_169 rfl ?_
    exact e_r_iret (ty := .int) rfl (e_nI _) dX11_work_172 h
  · have h := hf2 c
    refine e_r_aload_n (pc' := 109) (by decide) dX11_work_108 rfl rfl rfl ?_
    obtain ⟨r9, N8, he10, h⟩ := h
    refine e_r_callV (a := 64) (av := []) (st := []) mqYX11_ends ml_RX11_183 cl_11 rfl (Nat.le_of_ble_eq_true rfl) (by simp [e_cat]) rfl rfl rfl dX11_work_109 (pc' := 112) rfl he10 ⟨Nat.le_refl _, Nat.le_refl _⟩ hmo ?_
    exact e_r_iret (ty := .int) rfl (e_nI _) dX11_work_112 h
theorem wp_X11_work_25 {X : e_X} {d gn : Nat} {o : e_O} (M : e_M) (p1 : Int) (h : e_G X (d + 1) YX11_work 30 [some (.inr (.inr 64)), some (.inl p1)] [.inl 1, .inr (.inr 64)] (557, gn, e_RF, M) o) : e_G X (d + 1) YX11_work 25 [some (.inr (.inr 64)), some (.inl p1)] [.inr (.inr 64)] (557, gn, e_RF, M) o := by
  refine e_r_iconst (pc' := 26) dX11_work_25 rfl (by decide) ?_
  refine e_r_goto (pc' := 30) dX11_work_26 rfl ?_
  exact h
theorem wp_X11_undo_0 {X : e_X} {d gn : Nat} {o : e_O} (M : e_M) (hmo : e_mn (557, gn, e_RF, M) o.2) (h : ((¬ ((e_up M 64 0 0) 64 36) = 0 → ((0 ≤ ((e_up (e_up M 64 0 0) 64 36 (e_w (((e_up M 64 0 0) 64 36) - 1))) 64 36) ∧ ((e_up (e_up M 64 0 0) 64 36 (e_w (((e_up M 64 0 0) 64 36) - 1))) 64 36) < 16) ∧ (∃ N4 : e_M, e_E X d YX11_copies [.inr (.inr (535 + ((e_up (e_up M 64 0 0) 64 36 (e_w (((e_up M 64 0 0) 64 36) - 1))) 64 36).toNat)), .inr (.inr 532)] (557, gn, e_RF, (e_up (e_up M 64 0 0) 64 36 (e_w (((e_up M 64 0 0) 64 36) - 1)))) (.inl none, (557, gn, e_RF, N4)) ∧ (o = (.inl (some (.inl ((e_up N4 64 37 0) 64 36))), (557, gn, e_RF, (e_up N4 64 37 0))))))) ∧ (((e_up M 64 0 0) 64 36) = 0 → (o = (.inl (some (.inl (-1))), (557, gn, e_RF, (e_up M 64 0 0))))))) : e_G X (d + 1) YX11_undo 0 [some (.inr (.inr 64))] [] (557, gn, e_RF, M) o := by
  refine e_r_aload_n (pc' := 1) (by decide) dX11_undo_0 rfl rfl rfl ?_
  refine e_r_iconst (pc' := 2) dX11_undo_1 rfl (by decide) ?_
  refine e_r_puti (k := 0) (pc' := 5) cl_11 rfl (Nat.le_of_ble_eq_true rfl) rfl rfl fl_RX11_97 rfl (by decide +kernel) dX11_undo_2 rfl ?_
  refine e_r_aload_n (pc' := 6) (by decide) dX11_undo_5 rfl rfl rfl ?_
  refine e_r_geti (k := 36) (pc' := 9) cl_11 rfl (Nat.le_of_ble_eq_true rfl) rfl rfl fl_RX11_196 dX11_undo_6 rfl ?_
  obtain ⟨ht1, hf2⟩ := h
  refine e_r_if_ne (tgt := 14) (pc' := 12) dX11_undo_9 rfl rfl (fun c => ?_) (fun c => ?_)
  · have h := ht1 c
    refine e_r_aload_n (pc' := 15) (by decide) dX11_undo_14 rfl rfl rfl ?_
    refine e_r_dup (pc' := 16) rfl dX11_undo_15 rfl ?_
    refine e_r_geti (k := 36) (pc' := 19) cl_11 rfl (Nat.le_of_ble_eq_true rfl) rfl rfl fl_RX11_196 dX11_undo_16 rfl ?_
    refine e_r_iconst (pc' := 20) dX11_undo_19 rfl (by decide) ?_
    refine e_r_isub (pc' := 21) dX11_undo_20 rfl ?_
    refine e_r_puti (k := 36) (pc' := 24) cl_11 rfl (Nat.le_of_ble_eq_true rfl) rfl rfl fl_RX11_196 rfl (by decide +kernel) dX11_undo_21 rfl ?_
    refine e_r_aload_n (pc' := 25) (by decide) dX11_undo_24 rfl rfl rfl ?_
    refine e_r_getr (k := 33) (q := 534) (pc' := 28) cl_11 rfl (Nat.le_of_ble_eq_true rfl) rfl rfl fl_RX11_79 rfl (Nat.le_of_ble_eq_true rfl) dX11_undo_25 rfl ?_
    refine e_r_aload_n (pc' := 29) (by decide) dX11_undo_28 rfl rfl rfl ?_
    refine e_r_geti (k := 36) (pc' := 32) cl_11 rfl (Nat.le_of_ble_eq_true rfl) rfl rfl fl_RX11_196 dX11_undo_29 rfl ?_
    obtain ⟨hb3, h⟩ := h
    refine e_r_aldr (q := (535 + ((e_up (e_up M 64 0 0) 64 36 (e_w (((e_up M 64 0 0) 64 36) - 1))) 64 36).toNat)) (pc' := 33) rfl (Nat.le_of_ble_eq_true rfl) hb3.1 hb3.2 rfl (sh_534 hb3.1 hb3.2).2.1 dX11_undo_32 rfl ?_
    refine e_r_aload_n (pc' := 34) (by decide) dX11_undo_33 rfl rfl rfl ?_
    refine e_r_getr (k := 31) (q := 532) (pc' := 37) cl_11 rfl (Nat.le_of_ble_eq_true rfl) rfl rfl fl_RX11_73 rfl (Nat.le_of_ble_eq_true rfl) dX11_undo_34 rfl ?_
    obtain ⟨N4, he5, h⟩ := h
    refine e_r_callS (av := [.inr (.inr (535 + ((e_up (e_up M 64 0 0) 64 36 (e_w (((e_up M 64 0 0) 64 36) - 1))) 64 36).toNat)), .inr (.inr 532)]) (st := []) mqYX11_copies ml_RX11_315 (by simp [e_cat]) rfl rfl rfl dX11_undo_37 (pc' := 40) rfl he5 ⟨Nat.le_refl _, Nat.le_refl _⟩ hmo ?_
    refine e_r_aload_n (pc' := 41) (by decide) dX11_undo_40 rfl rfl rfl ?_
    refine e_r_iconst (pc' := 42) dX11_undo_41 rfl (by decide) ?_
    refine e_r_puti (k := 37) (pc' := 45) cl_11 rfl (Nat.le_of_ble_eq_true rfl) rfl rfl fl_RX11_199 rfl (by decide +kernel) dX11_undo_42 rfl ?_
    refine e_r_aload_n (pc' := 46) (by decide) dX11_undo_45 rfl rfl rfl ?_
    refine e_r_geti (k := 36) (pc' := 49) cl_11 rfl (Nat.le_of_ble_eq_true rfl) rfl rfl fl_RX11_196 dX11_undo_46 rfl ?_
    exact e_r_iret (ty := .int) rfl (e_nI _) dX11_undo_49 h
  · have h := hf2 c
    refine e_r_iconst (pc' := 13) dX11_undo_12 rfl (by decide) ?_
    exact e_r_iret (ty := .int) rfl (e_nI _) dX11_undo_13 h
theorem wp_X11_sumOf_0 {X : e_X} {d gn : Nat} {o : e_O} {q0 : Nat} (hq0 : e_SH q0 = (20, 56)) (kq0 : q0 ≤ 557) (zq0 : q0 ≠ 0) (M : e_M) (p2 : Int) (h : e_G X d YX11_sumOf 5 [some (.inr (.inr 64)), some (.inr (.inr q0)), some (.inl p2), some (.inl 0), some (.inl 0)] [] (557, gn, e_RF, M) o) : e_G X d YX11_sumOf 0 [some (.inr (.inr 64)), some (.inr (.inr q0)), some (.inl p2), none, none] [] (557, gn, e_RF, M) o := by
  refine e_r_iconst (pc' := 1) dX11_sumOf_0 rfl (by decide) ?_
  refine e_r_istore_n (pc' := 2) (loc' := [some (.inr (.inr 64)), some (.inr (.inr q0)), some (.inl p2), some (.inl 0), none]) dX11_sumOf_1 rfl rfl rfl rfl rfl ?_
  refine e_r_iconst (pc' := 3) dX11_sumOf_2 rfl (by decide) ?_
  refine e_r_istore (pc' := 5) (loc' := [some (.inr (.inr 64)), some (.inr (.inr q0)), some (.inl p2), some (.inl 0), some (.inl 0)]) dX11_sumOf_3 rfl rfl rfl rfl ?_
  exact h
theorem wp_X11_sumOf_5 {X : e_X} {d gn : Nat} {o : e_O} {q0 : Nat} (hq0 : e_SH q0 = (20, 56)) (kq0 : q0 ≤ 557) (zq0 : q0 ≠ 0) (M : e_M) (p2 v3 v4 : Int) (h : (((M 68 0) ≤ v4 → (o = (.inl (some (.inl v3)), (557, gn, e_RF, M)))) ∧ (¬ ((M 68 0) ≤ v4) → ((0 ≤ (e_w (p2 + v4)) ∧ (e_w (p2 + v4)) < 56) ∧ e_G X d YX11_sumOf 5 [some (.inr (.inr 64)), some (.inr (.inr q0)), some (.inl p2), some (.inl (e_w (v3 + (M q0 (e_w (p2 + v4)).toNat)))), some (.inl (e_w (v4 + 1)))] [] (557, gn, e_RF, M) o)))) : e_G X d YX11_sumOf 5 [some (.inr (.inr 64)), some (.inr (.inr q0)), some (.inl p2), some (.inl v3), some (.inl v4)] [] (557, gn, e_RF, M) o := by
  refine e_r_iload (pc' := 7) dX11_sumOf_5 rfl rfl ?_
  refine e_r_aload_n (pc' := 8) (by decide) dX11_sumOf_7 rfl rfl rfl ?_
  refine e_r_getr (k := 12) (q := 68) (pc' := 11) cl_11 rfl (Nat.le_of_ble_eq_true rfl) rfl rfl fl_RX11_23 rfl (Nat.le_of_ble_eq_true rfl) dX11_sumOf_8 rfl ?_
  refine e_r_iconst (pc' := 12) dX11_sumOf_11 rfl (by decide) ?_
  refine e_r_iald (j9 := 0) (pc' := 13) rfl (Nat.le_of_ble_eq_true rfl) (by decide) (by decide) rfl dX11_sumOf_12 rfl ?_
  obtain ⟨ht1, hf2⟩ := h
  refine e_r_icmp_ge (tgt := 31) (pc' := 16) dX11_sumOf_13 rfl rfl (fun c => ?_) (fun c => ?_)
  · have h := ht1 c
    refine e_r_iload_n (pc' := 32) dX11_sumOf_31 rfl rfl rfl ?_
    exact e_r_iret (ty := .int) rfl (e_nI _) dX11_sumOf_32 h
  · have h := hf2 c
    refine e_r_iload_n (pc' := 17) dX11_sumOf_16 rfl rfl rfl ?_
    refine e_r_aload_n (pc' := 18) zq0 dX11_sumOf_17 rfl rfl rfl ?_
    refine e_r_iload_n (pc' := 19) dX11_sumOf_18 rfl rfl rfl ?_
    refine e_r_iload (pc' := 21) dX11_sumOf_19 rfl rfl ?_
    refine e_r_iadd (pc' := 22) dX11_sumOf_21 rfl ?_
    obtain ⟨hb3, h⟩ := h
    refine e_r_iald (j9 := (e_w (p2 + v4)).toNat) (pc' := 23) hq0 kq0 hb3.1 hb3.2 rfl dX11_sumOf_22 rfl ?_
    refine e_r_iadd (pc' := 24) dX11_sumOf_23 rfl ?_
    refine e_r_istore_n (pc' := 25) (loc' := [some (.inr (.inr 64)), some (.inr (.inr q0)), some (.inl p2), some (.inl (e_w (v3 + (M q0 (e_w (p2 + v4)).toNat)))), some (.inl v4)]) dX11_sumOf_24 rfl rfl rfl rfl rfl ?_
    refine e_r_iinc (pc' := 28) (loc' := [some (.inr (.inr 64)), some (.inr (.inr q0)), some (.inl p2), some (.inl (e_w (v3 + (M q0 (e_w (p2 + v4)).toNat)))), some (.inl (e_w (v4 + 1)))]) dX11_sumOf_25 rfl rfl rfl rfl rfl ?_
    refine e_r_goto (pc' := 5) dX11_sumOf_28 rfl ?_
    exact h
theorem wp_X11_doneIn_0 {X : e_X} {d gn : Nat} {o : e_O} {q0 : Nat} (hq0 : e_SH q0 = (20, 56)) (kq0 : q0 ≤ 557) (zq0 : q0 ≠ 0) (M : e_M) (h : e_G X d YX11_doneIn 4 [some (.inr (.inr 64)), some (.inr (.inr q0)), some (.inl 0), some (.inl 0)] [] (557, gn, e_RF, M) o) : e_G X d YX11_doneIn 0 [some (.inr (.inr 64)), some (.inr (.inr q0)), none, none] [] (557, gn, e_RF, M) o := by
  refine e_r_iconst (pc' := 1) dX11_doneIn_0 rfl (by decide) ?_
  refine e_r_istore_n (pc' := 2) (loc' := [some (.inr (.inr 64)), some (.inr (.inr q0)), some (.inl 0), none]) dX11_doneIn_1 rfl rfl rfl rfl rfl ?_
  refine e_r_iconst (pc' := 3) dX11_doneIn_2 rfl (by decide) ?_
  refine e_r_istore_n (pc' := 4) (loc' := [some (.inr (.inr 64)), some (.inr (.inr q0)), some (.inl 0), some (.inl 0)]) dX11_doneIn_3 rfl rfl rfl rfl rfl ?_
  exact h
theorem wp_X11_doneIn_4 {X : e_X} {d gn : Nat} {o : e_O} {q0 : Nat} (hq0 : e_SH q0 = (20, 56)) (kq0 : q0 ≤ 557) (zq0 : q0 ≠ 0) (M : e_M) (v2 v3 : Int) (h : (((M 68 2) ≤ v3 → (o = (.inl (some (.inl v2)), (557, gn, e_RF, M)))) ∧ (¬ ((M 68 2) ≤ v3) → ((0 ≤ (e_w (42 + v3)) ∧ (e_w (42 + v3)) < 56) ∧ e_G X d YX11_doneIn 4 [some (.inr (.inr 64)), some (.inr (.inr q0)), some (.inl (e_or v2 (e_shl (M q0 (e_w (42 + v3)).toNat) v3))), some (.inl (e_w (v3 + 1)))] [] (557, gn, e_RF, M) o)))) : e_G X d YX11_doneIn 4 [some (.inr (.inr 64)), some (.inr (.inr q0)), some (.inl v2), some (.inl v3)] [] (557, gn, e_RF, M) o := by
  refine e_r_iload_n (pc' := 5) dX11_doneIn_4 rfl rfl rfl ?_
  refine e_r_aload_n (pc' := 6) (by decide) dX11_doneIn_5 rfl rfl rfl ?_
  refine e_r_getr (k := 12) (q := 68) (pc' := 9) cl_11 rfl (Nat.le_of_ble_eq_true rfl) rfl rfl fl_RX11_23 rfl (Nat.le_of_ble_eq_true rfl) dX11_doneIn_6 rfl ?_
  refine e_r_iconst (pc' := 10) dX11_doneIn_9 rfl (by decide) ?_
  refine e_r_iald (j9 := 2) (pc' := 11) rfl (Nat.le_of_ble_eq_true rfl) (by decide) (by decide) rfl dX11_doneIn_10 rfl ?_
  obtain ⟨ht1, hf2⟩ := h
  refine e_r_icmp_ge (tgt := 31) (pc' := 14) dX11_doneIn_11 rfl rfl (fun c => ?_) (fun c => ?_)
  · have h := ht1 c
    refine e_r_iload_n (pc' := 32) dX11_doneIn_31 rfl rfl rfl ?_
    exact e_r_iret (ty := .int) rfl (e_nI _) dX11_doneIn_32 h
  · have h := hf2 c
    refine e_r_iload_n (pc' := 15) dX11_doneIn_14 rfl rfl rfl ?_
    refine e_r_aload_n (pc' := 16) zq0 dX11_doneIn_15 rfl rfl rfl ?_
    refine e_r_bipush (pc' := 18) dX11_doneIn_16 rfl (by decide) ?_
    refine e_r_iload_n (pc' := 19) dX11_doneIn_18 rfl rfl rfl ?_
    refine e_r_iadd (pc' := 20) dX11_doneIn_19 rfl ?_
    obtain ⟨hb3, h⟩ := h
    refine e_r_iald (j9 := (e_w (42 + v3)).toNat) (pc' := 21) hq0 kq0 hb3.1 hb3.2 rfl dX11_doneIn_20 rfl ?_
    refine e_r_iload_n (pc' := 22) dX11_doneIn_21 rfl rfl rfl ?_
    refine e_r_ishl (pc' := 23) dX11_doneIn_22 rfl ?_
    refine e_r_ior (pc' := 24) dX11_doneIn_23 rfl ?_
    refine e_r_istore_n (pc' := 25) (loc' := [some (.inr (.inr 64)), some (.inr (.inr q0)), some (.inl (e_or v2 (e_shl (M q0 (e_w (42 + v3)).toNat) v3))), some (.inl v3)]) dX11_doneIn_24 rfl rfl rfl rfl rfl ?_
    refine e_r_iinc (pc' := 28) (loc' := [some (.inr (.inr 64)), some (.inr (.inr q0)), some (.inl (e_or v2 (e_shl (M q0 (e_w (42 + v3)).toNat) v3))), some (.inl (e_w (v3 + 1)))]) dX11_doneIn_25 rfl rfl rfl rfl rfl ?_
    refine e_r_goto (pc' := 4) dX11_doneIn_28 rfl ?_
    exact h
theorem wp_X11_told_0 {X : e_X} {d gn : Nat} {o : e_O} (M : e_M) (p1 : Int) (hmo : e_mn (557, gn, e_RF, M) o.2) (h : (∃ (r2 : Int) (N1 : e_M), e_E X d YX11_in [.inl p1, .inl 0, .inl 10] (557, gn, e_RF, (e_up M 64 0 0)) (.inl (some (.inl r2)), (557, gn, e_RF, N1)) ∧ ((¬ r2 = 0 → e_G X (d + 1) YX11_told 21 [some (.inr (.inr 64)), some (.inl p1), none, none] [.inl 0, .inr (.inr 64)] (557, gn, e_RF, N1) o) ∧ (r2 = 0 → e_G X (d + 1) YX11_told 21 [some (.inr (.inr 64)), some (.inl p1), none, none] [.inl 1, .inr (.inr 64)] (557, gn, e_RF, N1) o)))) : e_G X (d + 1) YX11_told 0 [some (.inr (.inr 64)), some (.inl p1), none, none] [] (557, gn, e_RF, M) o := by
  refine e_r_aload_n (pc' := 1) (by decide) dX11_told_0 rfl rfl rfl ?_
  refine e_r_iconst (pc' := 2) dX11_told_1 rfl (by decide) ?_
  refine e_r_puti (k := 0) (pc' := 5) cl_11 rfl (Nat.le_of_ble_eq_true rfl) rfl rfl fl_RX11_97 rfl (by decide +kernel) dX11_told_2 rfl ?_
  refine e_r_aload_n (pc' := 6) (by decide) dX11_told_5 rfl rfl rfl ?_
  refine e_r_iload_n (pc' := 7) dX11_told_6 rfl rfl rfl ?_
  refine e_r_iconst (pc' := 8) dX11_told_7 rfl (by decide) ?_
  refine e_r_bipush (pc' := 10) dX11_told_8 rfl (by decide) ?_
  obtain ⟨r2, N1, he3, h⟩ := h
  refine e_r_callS (av := [.inl p1, .inl 0, .inl 10]) (st := [.inr (.inr 64)]) mqYX11_in ml_RX11_131 (by simp [e_cat]) rfl rfl rfl dX11_told_10 (pc' := 13) rfl he3 ⟨Nat.le_refl _, Nat.le_refl _⟩ hmo ?_
  obtain ⟨ht4, hf5⟩ := h
  refine e_r_if_ne (tgt := 20) (pc' := 16) dX11_told_13 rfl rfl (fun c => ?_) (fun c => ?_)
  · have h := ht4 c
    refine e_r_iconst (pc' := 21) dX11_told_20 rfl (by decide) ?_
    exact h
  · have h := hf5 c
    refine e_r_iconst (pc' := 17) dX11_told_16 rfl (by decide) ?_
    refine e_r_goto (pc' := 21) dX11_told_17 rfl ?_
    exact h
theorem wp_X11_told_21 {X : e_X} {d gn : Nat} {o : e_O} (M : e_M) (p1 w0 : Int) (hmo : e_mn (557, gn, e_RF, M) o.2) (h : (∃ (r2 : Int) (N1 : e_M), e_E X d YX11_bad [.inr (.inr 64), .inl w0, .inl 1, .inl 1] (557, gn, e_RF, M) (.inl (some (.inl r2)), (557, gn, e_RF, N1)) ∧ ((r2 = 0 → e_G X (d + 1) YX11_told 35 [some (.inr (.inr 64)), some (.inl p1), some (.inl 0), some (.inl 0)] [] (557, gn, e_RF, N1) o) ∧ (¬ (r2 = 0) → (o = (.inl (some (.inl 0)), (557, gn, e_RF, N1))))))) : e_G X (d + 1) YX11_told 21 [some (.inr (.inr 64)), some (.inl p1), none, none] [.inl w0, .inr (.inr 64)] (557, gn, e_RF, M) o := by
  refine e_r_iconst (pc' := 22) dX11_told_21 rfl (by decide) ?_
  refine e_r_iconst (pc' := 23) dX11_told_22 rfl (by decide) ?_
  obtain ⟨r2, N1, he3, h⟩ := h
  refine e_r_callV (a := 64) (av := [.inl w0, .inl 1, .inl 1]) (st := []) mqYX11_bad ml_RX11_173 cl_11 rfl (Nat.le_of_ble_eq_true rfl) (by simp [e_cat]) rfl rfl rfl dX11_told_23 (pc' := 26) rfl he3 ⟨Nat.le_refl _, Nat.le_refl _⟩ hmo ?_
  obtain ⟨ht4, hf5⟩ := h
  refine e_r_if_eq (tgt := 31) (pc' := 29) dX11_told_26 rfl rfl (fun c => ?_) (fun c => ?_)
  · have h := ht4 c
    refine e_r_iconst (pc' := 32) dX11_told_31 rfl (by decide) ?_
    refine e_r_istore_n (pc' := 33) (loc' := [some (.inr (.inr 64)), some (.inl p1), some (.inl 0), none]) dX11_told_32 rfl rfl rfl rfl rfl ?_
    refine e_r_iconst (pc' := 34) dX11_told_33 rfl (by decide) ?_
    refine e_r_istore_n (pc' := 35) (loc' := [some (.inr (.inr 64)), some (.inl p1), some (.inl 0), some (.inl 0)]) dX11_told_34 rfl rfl rfl rfl rfl ?_
    exact h
  · have h := hf5 c
    refine e_r_iconst (pc' := 30) dX11_told_29 rfl (by decide) ?_
    exact e_r_iret (ty := .int) rfl (e_nI _) dX11_told_30 h
theorem wp_X11_told_35 {X : e_X} {d gn : Nat} {o : e_O} (M : e_M) (p1 v2 v3 : Int) (hmo : e_mn (557, gn, e_RF, M) o.2) (h : (((M 68 0) ≤ v3 → ((p1 = 0 → ((0 ≤ p1 ∧ p1 < 3) ∧ (o = (.inl (some (.inl (M 68 p1.toNat))), (557, gn, e_RF, M))))) ∧ (p1 = 1 → ((0 ≤ p1 ∧ p1 < 3) ∧ (o = (.inl (some (.inl (M 68 p1.toNat))), (557, gn, e_RF, M))))) ∧ (p1 = 2 → ((0 ≤ p1 ∧ p1 < 3) ∧ (o = (.inl (some (.inl (M 68 p1.toNat))), (557, gn, e_RF, M))))) ∧ (p1 = 3 → (o = (.inl (some (.inl (M 532 55))), (557, gn, e_RF, M)))) ∧ (p1 = 4 → (o = (.inl (some (.inl v2)), (557, gn, e_RF, M)))) ∧ (p1 = 5 → (∃ (r18 : Int) (N17 : e_M), e_E X d YX11_doneIn [.inr (.inr 64), .inr (.inr 532)] (557, gn, e_RF, M) (.inl (some (.inl r18)), (557, gn, e_RF, N17)) ∧ (o = (.inl (some (.inl r18)), (557, gn, e_RF, N17))))) ∧ (p1 = 6 → (o = (.inl (some (.inl (M 532 54))), (557, gn, e_RF, M)))) ∧ (p1 = 7 → (∃ (r21 : Int) (N20 : e_M), e_E X d YX11_sumOf [.inr (.inr 64), .inr (.inr 532), .inl 0] (557, gn, e_RF, M) (.inl (some (.inl r21)), (557, gn, e_RF, N20)) ∧ (o = (.inl (some (.inl r21)), (557, gn, e_RF, N20))))) ∧ (p1 = 8 → (∃ (r24 : Int) (N23 : e_M), e_E X d YX11_sumOf [.inr (.inr 64), .inr (.inr 532), .inl 6] (557, gn, e_RF, M) (.inl (some (.inl r24)), (557, gn, e_RF, N23)) ∧ (o = (.inl (some (.inl r24)), (557, gn, e_RF, N23))))) ∧ (p1 = 9 → (o = (.inl (some (.inl (M 64 35))), (557, gn, e_RF, M)))) ∧ (p1 < 0 ∨ 9 < p1 → (o = (.inl (some (.inl (M 64 37))), (557, gn, e_RF, M)))))) ∧ (¬ ((M 68 0) ≤ v3) → (∃ (r27 : Int) (N26 : e_M), e_E X d YX11_isSold [.inr (.inr 532), .inl v3] (557, gn, e_RF, M) (.inl (some (.inl r27)), (557, gn, e_RF, N26)) ∧ ((r27 = 0 → e_G X (d + 1) YX11_told 35 [some (.inr (.inr 64)), some (.inl p1), some (.inl (e_or v2 0)), some (.inl (e_w (v3 + 1)))] [] (557, gn, e_RF, N26) o) ∧ (¬ (r27 = 0) → e_G X (d + 1) YX11_told 35 [some (.inr (.inr 64)), some (.inl p1), some (.inl (e_or v2 (e_shl 1 v3))), some (.inl (e_w (v3 + 1)))] [] (557, gn, e_RF, N26) o)))))) : e_G X (d + 1) YX11_told 35 [some (.inr (.inr 64)), some (.inl p1), some (.inl v2), some (.inl v3)] [] (557, gn, e_RF, M) o := by
  refine e_r_iload_n (pc' := 36) dX11_told_35 rfl rfl rfl ?_
  refine e_r_aload_n (pc' := 37) (by decide) dX11_told_36 rfl rfl rfl ?_
  refine e_r_getr (k := 12) (q := 68) (pc' := 40) cl_11 rfl (Nat.le_of_ble_eq_true rfl) rfl rfl fl_RX11_23 rfl (Nat.le_of_ble_eq_true rfl) dX11_told_37 rfl ?_
  refine e_r_iconst (pc' := 41) dX11_told_40 rfl (by decide) ?_
  refine e_r_iald (j9 := 0) (pc' := 42) rfl (Nat.le_of_ble_eq_true rfl) (by decide) (by decide) rfl dX11_told_41 rfl ?_
  obtain ⟨ht1, hf2⟩ := h
  refine e_r_icmp_ge (tgt := 72) (pc' := 45) dX11_told_42 rfl rfl (fun c => ?_) (fun c => ?_)
  · have h := ht1 c
    refine e_r_iload_n (pc' := 73) dX11_told_72 rfl rfl rfl ?_
    obtain ⟨hk3, hk4, hk5, hk6, hk7, hk8, hk9, hk10, hk11, hk12, hd13⟩ := h
    refine e_r_table (tgt := 188) dX11_told_73 rfl (fun j => bif Nat.beq j 0 then 128 else bif Nat.beq j 1 then 128 else bif Nat.beq j 2 then 128 else bif Nat.beq j 3 then 135 else bif Nat.beq j 4 then 143 else bif Nat.beq j 5 then 145 else bif Nat.beq j 6 then 154 else bif Nat.beq j 7 then 162 else bif Nat.beq j 8 then 172 else 183) (fun j hj => ?_) (fun j ej hj => ?_) (fun c => ?_)
    · rcases (show j = 0 ∨ j = 1 ∨ j = 2 ∨ j = 3 ∨ j = 4 ∨ j = 5 ∨ j = 6 ∨ j = 7 ∨ j = 8 ∨ j = 9 by omega) with rfl | rfl | rfl | rfl | rfl | rfl | rfl | rfl | rfl | rfl
      · exact ⟨55, rfl, rfl⟩
      · exact ⟨55, rfl, rfl⟩
      · exact ⟨55, rfl, rfl⟩
      · exact ⟨62, rfl, rfl⟩
      · exact ⟨70, rfl, rfl⟩
      · exact ⟨72, rfl, rfl⟩
      · exact ⟨81, rfl, rfl⟩
      · exact ⟨89, rfl, rfl⟩
      · exact ⟨99, rfl, rfl⟩
      · exact ⟨110, rfl, rfl⟩
    · rcases (show j = 0 ∨ j = 1 ∨ j = 2 ∨ j = 3 ∨ j = 4 ∨ j = 5 ∨ j = 6 ∨ j = 7 ∨ j = 8 ∨ j = 9 by omega) with rfl | rfl | rfl | rfl | rfl | rfl | rfl | rfl | rfl | rfl
      · have h := hk3 (by omega)
        show e_G X (d + 1) YX11_told 128 [some (.inr (.inr 64)), some (.inl p1), some (.inl v2), some (.inl v3)] [] (557, gn, e_RF, M) o
        refine e_r_aload_n (pc' := 129) (by decide) dX11_told_128 rfl rfl rfl ?_
        refine e_r_getr (k := 12) (q := 68) (pc' := 132) cl_11 rfl (Nat.le_of_ble_eq_true rfl) rfl rfl fl_RX11_23 rfl (Nat.le_of_ble_eq_true rfl) dX11_told_129 rfl ?_
        refine e_r_iload_n (pc' := 133) dX11_told_132 rfl rfl rfl ?_
        obtain ⟨hb14, h⟩ := h
        refine e_r_iald (j9 := p1.toNat) (pc' := 134) rfl (Nat.le_of_ble_eq_true rfl) hb14.1 hb14.2 rfl dX11_told_133 rfl ?_
        exact e_r_iret (ty := .int) rfl (e_nI _) dX11_told_134 h
      · have h := hk4 (by omega)
        show e_G X (d + 1) YX11_told 128 [some (.inr (.inr 64)), some (.inl p1), some (.inl v2), some (.inl v3)] [] (557, gn, e_RF, M) o
        refine e_r_aload_n (pc' := 129) (by decide) dX11_told_128 rfl rfl rfl ?_
        refine e_r_getr (k := 12) (q := 68) (pc' := 132) cl_11 rfl (Nat.le_of_ble_eq_true rfl) rfl rfl fl_RX11_23 rfl (Nat.le_of_ble_eq_true rfl) dX11_told_129 rfl ?_
        refine e_r_iload_n (pc' := 133) dX11_told_132 rfl rfl rfl ?_
        obtain ⟨hb15, h⟩ := h
        refine e_r_iald (j9 := p1.toNat) (pc' := 134) rfl (Nat.le_of_ble_eq_true rfl) hb15.1 hb15.2 rfl dX11_told_133 rfl ?_
        exact e_r_iret (ty := .int) rfl (e_nI _) dX11_told_134 h
      · have h := hk5 (by omega)
        show e_G X (d + 1) YX11_told 128 [some (.inr (.inr 64)), some (.inl p1), some (.inl v2), some (.inl v3)] [] (557, gn, e_RF, M) o
        refine e_r_aload_n (pc' := 129) (by decide) dX11_told_128 rfl rfl rfl ?_
        refine e_r_getr (k := 12) (q := 68) (pc' := 132) cl_11 rfl (Nat.le_of_ble_eq_true rfl) rfl rfl fl_RX11_23 rfl (Nat.le_of_ble_eq_true rfl) dX11_told_129 rfl ?_
        refine e_r_iload_n (pc' := 133) dX11_told_132 rfl rfl rfl ?_
        obtain ⟨hb16, h⟩ := h
        refine e_r_iald (j9 := p1.toNat) (pc' := 134) rfl (Nat.le_of_ble_eq_true rfl) hb16.1 hb16.2 rfl dX11_told_133 rfl ?_
        exact e_r_iret (ty := .int) rfl (e_nI _) dX11_told_134 h
      · have h := hk6 (by omega)
        show e_G X (d + 1) YX11_told 135 [some (.inr (.inr 64)), some (.inl p1), some (.inl v2), some (.inl v3)] [] (557, gn, e_RF, M) o
        refine e_r_aload_n (pc' := 136) (by decide) dX11_told_135 rfl rfl rfl ?_
        refine e_r_getr (k := 31) (q := 532) (pc' := 139) cl_11 rfl (Nat.le_of_ble_eq_true rfl) rfl rfl fl_RX11_73 rfl (Nat.le_of_ble_eq_true rfl) dX11_told_136 rfl ?_
        refine e_r_bipush (pc' := 141) dX11_told_139 rfl (by decide) ?_
        refine e_r_iald (j9 := 55) (pc' := 142) rfl (Nat.le_of_ble_eq_true rfl) (by decide) (by decide) rfl dX11_told_141 rfl ?_
        exact e_r_iret (ty := .int) rfl (e_nI _) dX11_told_142 h
      · have h := hk7 (by omega)
        show e_G X (d + 1) YX11_told 143 [some (.inr (.inr 64)), some (.inl p1), some (.inl v2), some (.inl v3)] [] (557, gn, e_RF, M) o
        refine e_r_iload_n (pc' := 144) dX11_told_143 rfl rfl rfl ?_
        exact e_r_iret (ty := .int) rfl (e_nI _) dX11_told_144 h
      · have h := hk8 (by omega)
        show e_G X (d + 1) YX11_told 145 [some (.inr (.inr 64)), some (.inl p1), some (.inl v2), some (.inl v3)] [] (557, gn, e_RF, M) o
        refine e_r_aload_n (pc' := 146) (by decide) dX11_told_145 rfl rfl rfl ?_
        refine e_r_aload_n (pc' := 147) (by decide) dX11_told_146 rfl rfl rfl ?_
        refine e_r_getr (k := 31) (q := 532) (pc' := 150) cl_11 rfl (Nat.le_of_ble_eq_true rfl) rfl rfl fl_RX11_73 rfl (Nat.le_of_ble_eq_true rfl) dX11_told_147 rfl ?_
        obtain ⟨r18, N17, he19, h⟩ := h
        refine e_r_callV (a := 64) (av := [.inr (.inr 532)]) (st := []) mqYX11_doneIn ml_RX11_319 cl_11 rfl (Nat.le_of_ble_eq_true rfl) (by simp [e_cat]) rfl rfl rfl dX11_told_150 (pc' := 153) rfl he19 ⟨Nat.le_refl _, Nat.le_refl _⟩ hmo ?_
        exact e_r_iret (ty := .int) rfl (e_nI _) dX11_told_153 h
      · have h := hk9 (by omega)
        show e_G X (d + 1) YX11_told 154 [some (.inr (.inr 64)), some (.inl p1), some (.inl v2), some (.inl v3)] [] (557, gn, e_RF, M) o
        refine e_r_aload_n (pc' := 155) (by decide) dX11_told_154 rfl rfl rfl ?_
        refine e_r_getr (k := 31) (q := 532) (pc' := 158) cl_11 rfl (Nat.le_of_ble_eq_true rfl) rfl rfl fl_RX11_73 rfl (Nat.le_of_ble_eq_true rfl) dX11_told_155 rfl ?_
        refine e_r_bipush (pc' := 160) dX11_told_158 rfl (by decide) ?_
        refine e_r_iald (j9 := 54) (pc' := 161) rfl (Nat.le_of_ble_eq_true rfl) (by decide) (by decide) rfl dX11_told_160 rfl ?_
        exact e_r_iret (ty := .int) rfl (e_nI _) dX11_told_161 h
      · have h := hk10 (by omega)
        show e_G X (d + 1) YX11_told 162 [some (.inr (.inr 64)), some (.inl p1), some (.inl v2), some (.inl v3)] [] (557, gn, e_RF, M) o
        refine e_r_aload_n (pc' := 163) (by decide) dX11_told_162 rfl rfl rfl ?_
        refine e_r_aload_n (pc' := 164) (by decide) dX11_told_163 rfl rfl rfl ?_
        refine e_r_getr (k := 31) (q := 532) (pc' := 167) cl_11 rfl (Nat.le_of_ble_eq_true rfl) rfl rfl fl_RX11_73 rfl (Nat.le_of_ble_eq_true rfl) dX11_told_164 rfl ?_
        refine e_r_iconst (pc' := 168) dX11_told_167 rfl (by decide) ?_
        obtain ⟨r21, N20, he22, h⟩ := h
        refine e_r_callV (a := 64) (av := [.inr (.inr 532), .inl 0]) (st := []) mqYX11_sumOf ml_RX11_322 cl_11 rfl (Nat.le_of_ble_eq_true rfl) (by simp [e_cat]) rfl rfl rfl dX11_told_168 (pc' := 171) rfl he22 ⟨Nat.le_refl _, Nat.le_refl _⟩ hmo ?_
        exact e_r_iret (ty := .int) rfl (e_nI _) dX11_told_171 h
      · have h := hk11 (by omega)
        show e_G X (d + 1) YX11_told 172 [some (.inr (.inr 64)), some (.inl p1), some (.inl v2), some (.inl v3)] [] (557, gn, e_RF, M) o
        refine e_r_aload_n (pc' := 173) (by decide) dX11_told_172 rfl rfl rfl ?_
        refine e_r_aload_n (pc' := 174) (by decide) dX11_told_173 rfl rfl rfl ?_
        refine e_r_getr (k := 31) (q := 532) (pc' := 177) cl_11 rfl (Nat.le_of_ble_eq_true rfl) rfl rfl fl_RX11_73 rfl (Nat.le_of_ble_eq_true rfl) dX11_told_174 rfl ?_
        refine e_r_bipush (pc' := 179) dX11_told_177 rfl (by decide) ?_
        obtain ⟨r24, N23, he25, h⟩ := h
        refine e_r_callV (a := 64) (av := [.inr (.inr 532), .inl 6]) (st := []) mqYX11_sumOf ml_RX11_322 cl_11 rfl (Nat.le_of_ble_eq_true rfl) (by simp [e_cat]) rfl rfl rfl dX11_told_179 (pc' := 182) rfl he25 ⟨Nat.le_refl _, Nat.le_refl _⟩ hmo ?_
        exact e_r_iret (ty := .int) rfl (e_nI _) dX11_told_182 h
      · have h := hk12 (by omega)
        show e_G X (d + 1) YX11_told 183 [some (.inr (.inr 64)), some (.inl p1), some (.inl v2), some (.inl v3)] [] (557, gn, e_RF, M) o
        refine e_r_aload_n (pc' := 184) (by decide) dX11_told_183 rfl rfl rfl ?_
        refine e_r_geti (k := 35) (pc' := 187) cl_11 rfl (Nat.le_of_ble_eq_true rfl) rfl rfl fl_RX11_193 dX11_told_184 rfl ?_
        exact e_r_iret (ty := .int) rfl (e_nI _) dX11_told_187 h
    · have h := hd13 c
      refine e_r_aload_n (pc' := 189) (by decide) dX11_told_188 rfl rfl rfl ?_
      refine e_r_geti (k := 37) (pc' := 192) cl_11 rfl (Nat.le_of_ble_eq_true rfl) rfl rfl fl_RX11_199 dX11_told_189 rfl ?_
      exact e_r_iret (ty := .int) rfl (e_nI _) dX11_told_192 h
  · have h := hf2 c
    refine e_r_iload_n (pc' := 46) dX11_told_45 rfl rfl rfl ?_
    refine e_r_aload_n (pc' := 47) (by decide) dX11_told_46 rfl rfl rfl ?_
    refine e_r_getr (k := 31) (q := 532) (pc' := 50) cl_11 rfl (Nat.le_of_ble_eq_true rfl) rfl rfl fl_RX11_73 rfl (Nat.le_of_ble_eq_true rfl) dX11_told_47 rfl ?_
    refine e_r_iload_n (pc' := 51) dX11_told_50 rfl rfl rfl ?_
    obtain ⟨r27, N26, he28, h⟩ := h
    refine e_r_callS (av := [.inr (.inr 532), .inl v3]) (st := [.inl v2]) mqYX11_isSold ml_RX11_261 (by simp [e_cat]) rfl rfl rfl dX11_told_51 (pc' := 54) rfl he28 ⟨Nat.le_refl _, Nat.le_refl _⟩ hmo ?_
    obtain ⟨ht29, hf30⟩ := h
    refine e_r_if_eq (tgt := 63) (pc' := 57) dX11_told_54 rfl rfl (fun c => ?_) (fun c => ?_)
    · have h := ht29 c
      refine e_r_iconst (pc' := 64) dX11_told_63 rfl (by decide) ?_
      refine e_r_ior (pc' := 65) dX11_told_64 rfl ?_
      refine e_r_istore_n (pc' := 66) (loc' := [some (.inr (.inr 64)), some (.inl p1), some (.inl (e_or v2 0)), some (.inl v3)]) dX11_told_65 rfl rfl rfl rfl rfl ?_
      refine e_r_iinc (pc' := 69) (loc' := [some (.inr (.inr 64)), some (.inl p1), some (.inl (e_or v2 0)), some (.inl (e_w (v3 + 1)))]) dX11_told_66 rfl rfl rfl rfl rfl ?_
      refine e_r_goto (pc' := 35) dX11_told_69 rfl ?_
      exact h
    · have h := hf30 c
      refine e_r_iconst (pc' := 58) dX11_told_57 rfl (by decide) ?_
      refine e_r_iload_n (pc' := 59) dX11_told_58 rfl rfl rfl ?_
      refine e_r_ishl (pc' := 60) dX11_told_59 rfl ?_
      refine e_r_goto (pc' := 64) dX11_told_60 rfl ?_
      refine e_r_ior (pc' := 65) dX11_told_64 rfl ?_
      refine e_r_istore_n (pc' := 66) (loc' := [some (.inr (.inr 64)), some (.inl p1), some (.inl (e_or v2 (e_shl 1 v3))), some (.inl v3)]) dX11_told_65 rfl rfl rfl rfl rfl ?_
      refine e_r_iinc (pc' := 69) (loc' := [some (.inr (.inr 64)), some (.inl p1), some (.inl (e_or v2 (e_shl 1 v3))), some (.inl (e_w (v3 + 1)))]) dX11_told_66 rfl rfl rfl rfl rfl ?_
      refine e_r_goto (pc' := 35) dX11_told_69 rfl ?_
      exact h
theorem wp_X11_isPerson_0 {X : e_X} {d gn : Nat} {o : e_O} (M : e_M) (p1 : Int) (hmo : e_mn (557, gn, e_RF, M) o.2) (h : (∃ (r2 : Int) (N1 : e_M), e_E X d YX11_in [.inl p1, .inl 0, .inl (e_w ((M 68 0) - 1))] (557, gn, e_RF, M) (.inl (some (.inl r2)), (557, gn, e_RF, N1)) ∧ ((r2 = 0 ∨ r2 = 1) ∧ o = (.inl (some (.inl r2)), (557, gn, e_RF, N1))))) : e_G X (d + 1) YX11_isPerson 0 [some (.inr (.inr 64)), some (.inl p1)] [] (557, gn, e_RF, M) o := by
  refine e_r_iload_n (pc' := 1) dX11_isPerson_0 rfl rfl rfl ?_
  refine e_r_iconst (pc' := 2) dX11_isPerson_1 rfl (by decide) ?_
  refine e_r_aload_n (pc' := 3) (by decide) dX11_isPerson_2 rfl rfl rfl ?_
  refine e_r_getr (k := 12) (q := 68) (pc' := 6) cl_11 rfl (Nat.le_of_ble_eq_true rfl) rfl rfl fl_RX11_23 rfl (Nat.le_of_ble_eq_true rfl) dX11_isPerson_3 rfl ?_
  refine e_r_iconst (pc' := 7) dX11_isPerson_6 rfl (by decide) ?_
  refine e_r_iald (j9 := 0) (pc' := 8) rfl (Nat.le_of_ble_eq_true rfl) (by decide) (by decide) rfl dX11_isPerson_7 rfl ?_
  refine e_r_iconst (pc' := 9) dX11_isPerson_8 rfl (by decide) ?_
  refine e_r_isub (pc' := 10) dX11_isPerson_9 rfl ?_
  obtain ⟨r2, N1, he3, h⟩ := h
  refine e_r_callS (av := [.inl p1, .inl 0, .inl (e_w ((M 68 0) - 1))]) (st := []) mqYX11_in ml_RX11_131 (by simp [e_cat]) rfl rfl rfl dX11_isPerson_10 (pc' := 13) rfl he3 ⟨Nat.le_refl _, Nat.le_refl _⟩ hmo ?_
  exact e_r_iret (ty := .boolean) rfl (e_nZ h.1) dX11_isPerson_13 h.2
theorem wp_X11_person_0 {X : e_X} {d gn : Nat} {o : e_O} (M : e_M) (p1 p2 : Int) (hmo : e_mn (557, gn, e_RF, M) o.2) (h : (∃ (r2 : Int) (N1 : e_M), e_E X d YX11_isPerson [.inr (.inr 64), .inl p1] (557, gn, e_RF, (e_up M 64 0 0)) (.inl (some (.inl r2)), (557, gn, e_RF, N1)) ∧ ((¬ r2 = 0 → e_G X (d + 1) YX11_person 19 [some (.inr (.inr 64)), some (.inl p1), some (.inl p2)] [.inl 0, .inr (.inr 64)] (557, gn, e_RF, N1) o) ∧ (r2 = 0 → e_G X (d + 1) YX11_person 19 [some (.inr (.inr 64)), some (.inl p1), some (.inl p2)] [.inl 1, .inr (.inr 64)] (557, gn, e_RF, N1) o)))) : e_G X (d + 1) YX11_person 0 [some (.inr (.inr 64)), some (.inl p1), some (.inl p2)] [] (557, gn, e_RF, M) o := by
  refine e_r_aload_n (pc' := 1) (by decide) dX11_person_0 rfl rfl rfl ?_
  refine e_r_iconst (pc' := 2) dX11_person_1 rfl (by decide) ?_
  refine e_r_puti (k := 0) (pc' := 5) cl_11 rfl (Nat.le_of_ble_eq_true rfl) rfl rfl fl_RX11_97 rfl (by decide +kernel) dX11_person_2 rfl ?_
  refine e_r_aload_n (pc' := 6) (by decide) dX11_person_5 rfl rfl rfl ?_
  refine e_r_aload_n (pc' := 7) (by decide) dX11_person_6 rfl rfl rfl ?_
  refine e_r_iload_n (pc' := 8) dX11_person_7 rfl rfl rfl ?_
  obtain ⟨r2, N1, he3, h⟩ := h
  refine e_r_callV (a := 64) (av := [.inl p1]) (st := [.inr (.inr 64)]) mqYX11_isPerson ml_RX11_325 cl_11 rfl (Nat.le_of_ble_eq_true rfl) (by simp [e_cat]) rfl rfl rfl dX11_person_8 (pc' := 11) rfl he3 ⟨Nat.le_refl _, Nat.le_refl _⟩ hmo ?_
  obtain ⟨ht4, hf5⟩ := h
  refine e_r_if_ne (tgt := 18) (pc' := 14) dX11_person_11 rfl rfl (fun c => ?_) (fun c => ?_)
  · have h := ht4 c
    refine e_r_iconst (pc' := 19) dX11_person_18 rfl (by decide) ?_
    exact h
  · have h := hf5 c
    refine e_r_iconst (pc' := 15) dX11_person_14 rfl (by decide) ?_
    refine e_r_goto (pc' := 19) dX11_person_15 rfl ?_
    exact h
theorem wp_X11_person_19 {X : e_X} {d gn : Nat} {o : e_O} (M : e_M) (p1 p2 w0 : Int) (hmo : e_mn (557, gn, e_RF, M) o.2) (h : (∃ (r2 : Int) (N1 : e_M), e_E X d YX11_bad [.inr (.inr 64), .inl w0, .inl 1, .inl 0] (557, gn, e_RF, M) (.inl (some (.inl r2)), (557, gn, e_RF, N1)) ∧ ((¬ r2 = 0 → (o = (.inl (some (.inl 0)), (557, gn, e_RF, N1)))) ∧ (r2 = 0 → (∃ (r7 : Int) (N6 : e_M), e_E X d YX11_in [.inl p2, .inl 0, .inl 6] (557, gn, e_RF, N1) (.inl (some (.inl r7)), (557, gn, e_RF, N6)) ∧ ((¬ r7 = 0 → e_G X (d + 1) YX11_person 43 [some (.inr (.inr 64)), some (.inl p1), some (.inl p2)] [.inl 0, .inr (.inr 64)] (557, gn, e_RF, N6) o) ∧ (r7 = 0 → e_G X (d + 1) YX11_person 43 [some (.inr (.inr 64)), some (.inl p1), some (.inl p2)] [.inl 1, .inr (.inr 64)] (557, gn, e_RF, N6) o))))))) : e_G X (d + 1) YX11_person 19 [some (.inr (.inr 64)), some (.inl p1), some (.inl p2)] [.inl w0, .inr (.inr 64)] (557, gn, e_RF, M) o := by
  refine e_r_iconst (pc' := 20) dX11_person_19 rfl (by decide) ?_
  refine e_r_iconst (pc' := 21) dX11_person_20 rfl (by decide) ?_
  obtain ⟨r2, N1, he3, h⟩ := h
  refine e_r_callV (a := 64) (av := [.inl w0, .inl 1, .inl 0]) (st := []) mqYX11_bad ml_RX11_173 cl_11 rfl (Nat.le_of_ble_eq_true rfl) (by simp [e_cat]) rfl rfl rfl dX11_person_21 (pc' := 24) rfl he3 ⟨Nat.le_refl _, Nat.le_refl _⟩ hmo ?_
  obtain ⟨ht4, hf5⟩ := h
  refine e_r_if_ne (tgt := 51) (pc' := 27) dX11_person_24 rfl rfl (fun c => ?_) (fun c => ?_)
  · have h := ht4 c
    refine e_r_iconst (pc' := 52) dX11_person_51 rfl (by decide) ?_
    exact e_r_iret (ty := .int) rfl (e_nI _) dX11_person_52 h
  · have h := hf5 c
    refine e_r_aload_n (pc' := 28) (by decide) dX11_person_27 rfl rfl rfl ?_
    refine e_r_iload_n (pc' := 29) dX11_person_28 rfl rfl rfl ?_
    refine e_r_iconst (pc' := 30) dX11_person_29 rfl (by decide) ?_
    refine e_r_bipush (pc' := 32) dX11_person_30 rfl (by decide) ?_
    obtain ⟨r7, N6, he8, h⟩ := h
    refine e_r_callS (av := [.inl p2, .inl 0, .inl 6]) (st := [.inr (.inr 64)]) mqYX11_in ml_RX11_131 (by simp [e_cat]) rfl rfl rfl dX11_person_32 (pc' := 35) rfl he8 ⟨Nat.le_refl _, Nat.le_refl _⟩ hmo ?_
    obtain ⟨ht9, hf10⟩ := h
    refine e_r_if_ne (tgt := 42) (pc' := 38) dX11_person_35 rfl rfl (fun c => ?_) (fun c => ?_)
    · have h := ht9 c
      refine e_r_iconst (pc' := 43) dX11_person_42 rfl (by decide) ?_
      exact h
    · have h := hf10 c
      refine e_r_iconst (pc' := 39) dX11_person_38 rfl (by decide) ?_
      refine e_r_goto (pc' := 43) dX11_person_39 rfl ?_
      exact h
theorem wp_X11_person_43 {X : e_X} {d gn : Nat} {o : e_O} (M : e_M) (p1 p2 w0 : Int) (hmo : e_mn (557, gn, e_RF, M) o.2) (h : (∃ (r2 : Int) (N1 : e_M), e_E X d YX11_bad [.inr (.inr 64), .inl w0, .inl 2, .inl 1] (557, gn, e_RF, M) (.inl (some (.inl r2)), (557, gn, e_RF, N1)) ∧ ((r2 = 0 → ((p2 = 0 → ((0 ≤ (e_w (0 + p1)) ∧ (e_w (0 + p1)) < 56) ∧ (o = (.inl (some (.inl (N1 532 (e_w (0 + p1)).toNat))), (557, gn, e_RF, N1))))) ∧ (p2 = 1 → ((0 ≤ p1 ∧ p1 < 6) ∧ (o = (.inl (some (.inl (N1 (81 + p1.toNat) 1))), (557, gn, e_RF, N1))))) ∧ (p2 = 2 → ((0 ≤ (e_w (6 + p1)) ∧ (e_w (6 + p1)) < 56) ∧ (o = (.inl (some (.inl (N1 532 (e_w (6 + p1)).toNat))), (557, gn, e_RF, N1))))) ∧ (p2 = 3 → ((0 ≤ (e_w (12 + p1)) ∧ (e_w (12 + p1)) < 56) ∧ (o = (.inl (some (.inl (N1 532 (e_w (12 + p1)).toNat))), (557, gn, e_RF, N1))))) ∧ (p2 = 4 → ((0 ≤ p1 ∧ p1 < 6) ∧ (o = (.inl (some (.inl (N1 72 p1.toNat))), (557, gn, e_RF, N1))))) ∧ (p2 = 5 → ((0 ≤ (e_w (18 + p1)) ∧ (e_w (18 + p1)) < 56) ∧ (o = (.inl (some (.inl (N1 532 (e_w (18 + p1)).toNat))), (557, gn, e_RF, N1))))) ∧ (p2 < 0 ∨ 5 < p2 → ((0 ≤ (e_w (24 + p1)) ∧ (e_w (24 + p1)) < 56) ∧ (o = (.inl (some (.inl (N1 532 (e_w (24 + p1)).toNat))), (557, gn, e_RF, N1))))))) ∧ (¬ (r2 = 0) → (o = (.inl (some (.inl 0)), (557, gn, e_RF, N1))))))) : e_G X (d + 1) YX11_person 43 [some (.inr (.inr 64)), some (.inl p1), some (.inl p2)] [.inl w0, .inr (.inr 64)] (557, gn, e_RF, M) o := by
  refine e_r_iconst (pc' := 44) dX11_person_43 rfl (by decide) ?_
  refine e_r_iconst (pc' := 45) dX11_person_44 rfl (by decide) ?_
  obtain ⟨r2, N1, he3, h⟩ := h
  refine e_r_callV (a := 64) (av := [.inl w0, .inl 2, .inl 1]) (st := []) mqYX11_bad ml_RX11_173 cl_11 rfl (Nat.le_of_ble_eq_true rfl) (by simp [e_cat]) rfl rfl rfl dX11_person_45 (pc' := 48) rfl he3 ⟨Nat.le_refl _, Nat.le_refl _⟩ hmo ?_
  obtain ⟨ht4, hf5⟩ := h
  refine e_r_if_eq (tgt := 53) (pc' := 51) dX11_person_48 rfl rfl (fun c => ?_) (fun c => ?_)
  · have h := ht4 c
    refine e_r_iload_n (pc' := 54) dX11_person_53 rfl rfl rfl ?_
    obtain ⟨hk6, hk7, hk8, hk9, hk10, hk11, hd12⟩ := h
    refine e_r_table (tgt := 147) dX11_person_54 rfl (fun j => bif Nat.beq j 0 then 92 else bif Nat.beq j 1 then 101 else bif Nat.beq j 2 then 110 else bif Nat.beq j 3 then 120 else bif Nat.beq j 4 then 130 else 137) (fun j hj => ?_) (fun j ej hj => ?_) (fun c => ?_)
    · rcases (show j = 0 ∨ j = 1 ∨ j = 2 ∨ j = 3 ∨ j = 4 ∨ j = 5 by omega) with rfl | rfl | rfl | rfl | rfl | rfl
      · exact ⟨38, rfl, rfl⟩
      · exact ⟨47, rfl, rfl⟩
      · exact ⟨56, rfl, rfl⟩
      · exact ⟨66, rfl, rfl⟩
      · exact ⟨76, rfl, rfl⟩
      · exact ⟨83, rfl, rfl⟩
    · rcases (show j = 0 ∨ j = 1 ∨ j = 2 ∨ j = 3 ∨ j = 4 ∨ j = 5 by omega) with rfl | rfl | rfl | rfl | rfl | rfl
      · have h := hk6 (by omega)
        show e_G X (d + 1) YX11_person 92 [some (.inr (.inr 64)), some (.inl p1), some (.inl p2)] [] (557, gn, e_RF, N1) o
        refine e_r_aload_n (pc' := 93) (by decide) dX11_person_92 rfl rfl rfl ?_
        refine e_r_getr (k := 31) (q := 532) (pc' := 96) cl_11 rfl (Nat.le_of_ble_eq_true rfl) rfl rfl fl_RX11_73 rfl (Nat.le_of_ble_eq_true rfl) dX11_person_93 rfl ?_
        refine e_r_iconst (pc' := 97) dX11_person_96 rfl (by decide) ?_
        refine e_r_iload_n (pc' := 98) dX11_person_97 rfl rfl rfl ?_
        refine e_r_iadd (pc' := 99) dX11_person_98 rfl ?_
        obtain ⟨hb13, h⟩ := h
        refine e_r_iald (j9 := (e_w (0 + p1)).toNat) (pc' := 100) rfl (Nat.le_of_ble_eq_true rfl) hb13.1 hb13.2 rfl dX11_person_99 rfl ?_
        exact e_r_iret (ty := .int) rfl (e_nI _) dX11_person_100 h
      · have h := hk7 (by omega)
        show e_G X (d + 1) YX11_person 101 [some (.inr (.inr 64)), some (.inl p1), some (.inl p2)] [] (557, gn, e_RF, N1) o
        refine e_r_aload_n (pc' := 102) (by decide) dX11_person_101 rfl rfl rfl ?_
        refine e_r_getr (k := 18) (q := 80) (pc' := 105) cl_11 rfl (Nat.le_of_ble_eq_true rfl) rfl rfl fl_RX11_43 rfl (Nat.le_of_ble_eq_true rfl) dX11_person_102 rfl ?_
        refine e_r_iload_n (pc' := 106) dX11_person_105 rfl rfl rfl ?_
        obtain ⟨hb14, h⟩ := h
        refine e_r_aldr (q := (81 + p1.toNat)) (pc' := 107) rfl (Nat.le_of_ble_eq_true rfl) hb14.1 hb14.2 rfl (sh_80 hb14.1 hb14.2).2.1 dX11_person_106 rfl ?_
        refine e_r_iconst (pc' := 108) dX11_person_107 rfl (by decide) ?_
        refine e_r_iald (j9 := 1) (pc' := 109) (sh_80 hb14.1 hb14.2).1 (sh_80 hb14.1 hb14.2).2.1 (by decide) (by decide) rfl dX11_person_108 rfl ?_
        exact e_r_iret (ty := .int) rfl (e_nI _) dX11_person_109 h
      · have h := hk8 (by omega)
        show e_G X (d + 1) YX11_person 110 [some (.inr (.inr 64)), some (.inl p1), some (.inl p2)] [] (557, gn, e_RF, N1) o
        refine e_r_aload_n (pc' := 111) (by decide) dX11_person_110 rfl rfl rfl ?_
        refine e_r_getr (k := 31) (q := 532) (pc' := 114) cl_11 rfl (Nat.le_of_ble_eq_true rfl) rfl rfl fl_RX11_73 rfl (Nat.le_of_ble_eq_true rfl) dX11_person_111 rfl ?_
        refine e_r_bipush (pc' := 116) dX11_person_114 rfl (by decide) ?_
        refine e_r_iload_n (pc' := 117) dX11_person_116 rfl rfl rfl ?_
        refine e_r_iadd (pc' := 118) dX11_person_117 rfl ?_
        obtain ⟨hb15, h⟩ := h
        refine e_r_iald (j9 := (e_w (6 + p1)).toNat) (pc' := 119) rfl (Nat.le_of_ble_eq_true rfl) hb15.1 hb15.2 rfl dX11_person_118 rfl ?_
        exact e_r_iret (ty := .int) rfl (e_nI _) dX11_person_119 h
      · have h := hk9 (by omega)
        show e_G X (d + 1) YX11_person 120 [some (.inr (.inr 64)), some (.inl p1), some (.inl p2)] [] (557, gn, e_RF, N1) o
        refine e_r_aload_n (pc' := 121) (by decide) dX11_person_120 rfl rfl rfl ?_
        refine e_r_getr (k := 31) (q := 532) (pc' := 124) cl_11 rfl (Nat.le_of_ble_eq_true rfl) rfl rfl fl_RX11_73 rfl (Nat.le_of_ble_eq_true rfl) dX11_person_121 rfl ?_
        refine e_r_bipush (pc' := 126) dX11_person_124 rfl (by decide) ?_
        refine e_r_iload_n (pc' := 127) dX11_person_126 rfl rfl rfl ?_
        refine e_r_iadd (pc' := 128) dX11_person_127 rfl ?_
        obtain ⟨hb16, h⟩ := h
        refine e_r_iald (j9 := (e_w (12 + p1)).toNat) (pc' := 129) rfl (Nat.le_of_ble_eq_true rfl) hb16.1 hb16.2 rfl dX11_person_128 rfl ?_
        exact e_r_iret (ty := .int) rfl (e_nI _) dX11_person_129 h
      · have h := hk10 (by omega)
        show e_G X (d + 1) YX11_person 130 [some (.inr (.inr 64)), some (.inl p1), some (.inl p2)] [] (557, gn, e_RF, N1) o
        refine e_r_aload_n (pc' := 131) (by decide) dX11_person_130 rfl rfl rfl ?_
        refine e_r_getr (k := 16) (q := 72) (pc' := 134) cl_11 rfl (Nat.le_of_ble_eq_true rfl) rfl rfl fl_RX11_35 rfl (Nat.le_of_ble_eq_true rfl) dX11_person_131 rfl ?_
        refine e_r_iload_n (pc' := 135) dX11_person_134 rfl rfl rfl ?_
        obtain ⟨hb17, h⟩ := h
        refine e_r_iald (j9 := p1.toNat) (pc' := 136) rfl (Nat.le_of_ble_eq_true rfl) hb17.1 hb17.2 rfl dX11_person_135 rfl ?_
        exact e_r_iret (ty := .int) rfl (e_nI _) dX11_person_136 h
      · have h := hk11 (by omega)
        show e_G X (d + 1) YX11_person 137 [some (.inr (.inr 64)), some (.inl p1), some (.inl p2)] [] (557, gn, e_RF, N1) o
        refine e_r_aload_n (pc' := 138) (by decide) dX11_person_137 rfl rfl rfl ?_
        refine e_r_getr (k := 31) (q := 532) (pc' := 141) cl_11 rfl (Nat.le_of_ble_eq_true rfl) rfl rfl fl_RX11_73 rfl (Nat.le_of_ble_eq_true rfl) dX11_person_138 rfl ?_
        refine e_r_bipush (pc' := 143) dX11_person_141 rfl (by decide) ?_
        refine e_r_iload_n (pc' := 144) dX11_person_143 rfl rfl rfl ?_
        refine e_r_iadd (pc' := 145) dX11_person_144 rfl ?_
        obtain ⟨hb18, h⟩ := h
        refine e_r_iald (j9 := (e_w (18 + p1)).toNat) (pc' := 146) rfl (Nat.le_of_ble_eq_true rfl) hb18.1 hb18.2 rfl dX11_person_145 rfl ?_
        exact e_r_iret (ty := .int) rfl (e_nI _) dX11_person_146 h
    · have h := hd12 c
      refine e_r_aload_n (pc' := 148) (by decide) dX11_person_147 rfl rfl rfl ?_
      refine e_r_getr (k := 31) (q := 532) (pc' := 151) cl_11 rfl (Nat.le_of_ble_eq_true rfl) rfl rfl fl_RX11_73 rfl (Nat.le_of_ble_eq_true rfl) dX11_person_148 rfl ?_
      refine e_r_bipush (pc' := 153) dX11_person_151 rfl (by decide) ?_
      refine e_r_iload_n (pc' := 154) dX11_person_153 rfl rfl rfl ?_
      refine e_r_iadd (pc' := 155) dX11_person_154 rfl ?_
      obtain ⟨hb19, h⟩ := h
      refine e_r_iald (j9 := (e_w (24 + p1)).toNat) (pc' := 156) rfl (Nat.le_of_ble_eq_true rfl) hb19.1 hb19.2 rfl dX11_person_155 rfl ?_
      exact e_r_iret (ty := .int) rfl (e_nI _) dX11_person_156 h
  · have h := hf5 c
    refine e_r_iconst (pc' := 52) dX11_person_51 rfl (by decide) ?_
    exact e_r_iret (ty := .int) rfl (e_nI _) dX11_person_52 h
theorem wp_X11_duty_0 {X : e_X} {d gn : Nat} {o : e_O} (M : e_M) (p1 p2 : Int) (hmo : e_mn (557, gn, e_RF, M) o.2) (h : (∃ (r2 : Int) (N1 : e_M), e_E X d YX11_in [.inl p1, .inl 0, .inl (e_w (((e_up M 64 0 0) 68 1) - 1))] (557, gn, e_RF, (e_up M 64 0 0)) (.inl (some (.inl r2)), (557, gn, e_RF, N1)) ∧ ((¬ r2 = 0 → e_G X (d + 1) YX11_duty 27 [some (.inr (.inr 64)), some (.inl p1), some (.inl p2), none, none] [.inl 0, .inr (.inr 64)] (557, gn, e_RF, N1) o) ∧ (r2 = 0 → e_G X (d + 1) YX11_duty 27 [some (.inr (.inr 64)), some (.inl p1), some (.inl p2), none, none] [.inl 1, .inr (.inr 64)] (557, gn, e_RF, N1) o)))) : e_G X (d + 1) YX11_duty 0 [some (.inr (.inr 64)), some (.inl p1), some (.inl p2), none, none] [] (557, gn, e_RF, M) o := by
  refine e_r_aload_n (pc' := 1) (by decide) dX11_duty_0 rfl rfl rfl ?_
  refine e_r_iconst (pc' := 2) dX11_duty_1 rfl (by decide) ?_
  refine e_r_puti (k := 0) (pc' := 5) cl_11 rfl (Nat.le_of_ble_eq_true rfl) rfl rfl fl_RX11_97 rfl (by decide +kernel) dX11_duty_2 rfl ?_
  refine e_r_aload_n (pc' := 6) (by decide) dX11_duty_5 rfl rfl rfl ?_
  refine e_r_iload_n (pc' := 7) dX11_duty_6 rfl rfl rfl ?_
  refine e_r_iconst (pc' := 8) dX11_duty_7 rfl (by decide) ?_
  refine e_r_aload_n (pc' := 9) (by decide) dX11_duty_8 rfl rfl rfl ?_
  refine e_r_getr (k := 12) (q := 68) (pc' := 12) cl_11 rfl (Nat.le_of_ble_eq_true rfl) rfl rfl fl_RX11_23 rfl (Nat.le_of_ble_eq_true rfl) dX11_duty_9 rfl ?_
  refine e_r_iconst (pc' := 13) dX11_duty_12 rfl (by decide) ?_
  refine e_r_iald (j9 := 1) (pc' := 14) rfl (Nat.le_of_ble_eq_true rfl) (by decide) (by decide) rfl dX11_duty_13 rfl ?_
  refine e_r_iconst (pc' := 15) dX11_duty_14 rfl (by decide) ?_
  refine e_r_isub (pc' := 16) dX11_duty_15 rfl ?_
  obtain ⟨r2, N1, he3, h⟩ := h
  refine e_r_callS (av := [.inl p1, .inl 0, .inl (e_w (((e_up M 64 0 0) 68 1) - 1))]) (st := [.inr (.inr 64)]) mqYX11_in ml_RX11_131 (by simp [e_cat]) rfl rfl rfl dX11_duty_16 (pc' := 19) rfl he3 ⟨Nat.le_refl _, Nat.le_refl _⟩ hmo ?_
  obtain ⟨ht4, hf5⟩ := h
  refine e_r_if_ne (tgt := 26) (pc' := 22) dX11_duty_19 rfl rfl (fun c => ?_) (fun c => ?_)
  · have h := ht4 c
    refine e_r_iconst (pc' := 27) dX11_duty_26 rfl (by decide) ?_
    exact h
  · have h := hf5 c
    refine e_r_iconst (pc' := 23) dX11_duty_22 rfl (by decide) ?_
    refine e_r_goto (pc' := 27) dX11_duty_23 rfl ?_
    exact h
theorem wp_X11_duty_27 {X : e_X} {d gn : Nat} {o : e_O} (M : e_M) (p1 p2 w0 : Int) (hmo : e_mn (557, gn, e_RF, M) o.2) (h : (∃ (r2 : Int) (N1 : e_M), e_E X d YX11_bad [.inr (.inr 64), .inl w0, .inl 1, .inl 0] (557, gn, e_RF, M) (.inl (some (.inl r2)), (557, gn, e_RF, N1)) ∧ ((¬ r2 = 0 → (o = (.inl (some (.inl 0)), (557, gn, e_RF, N1)))) ∧ (r2 = 0 → (∃ (r7 : Int) (N6 : e_M), e_E X d YX11_in [.inl p2, .inl 0, .inl 1] (557, gn, e_RF, N1) (.inl (some (.inl r7)), (557, gn, e_RF, N6)) ∧ ((¬ r7 = 0 → e_G X (d + 1) YX11_duty 50 [some (.inr (.inr 64)), some (.inl p1), some (.inl p2), none, none] [.inl 0, .inr (.inr 64)] (557, gn, e_RF, N6) o) ∧ (r7 = 0 → e_G X (d + 1) YX11_duty 50 [some (.inr (.inr 64)), some (.inl p1), some (.inl p2), none, none] [.inl 1, .inr (.inr 64)] (557, gn, e_RF, N6) o))))))) : e_G X (d + 1) YX11_duty 27 [some (.inr (.inr 64)), some (.inl p1), some (.inl p2), none, none] [.inl w0, .inr (.inr 64)] (557, gn, e_RF, M) o := by
  refine e_r_iconst (pc' := 28) dX11_duty_27 rfl (by decide) ?_
  refine e_r_iconst (pc' := 29) dX11_duty_28 rfl (by decide) ?_
  obtain ⟨r2, N1, he3, h⟩ := h
  refine e_r_callV (a := 64) (av := [.inl w0, .inl 1, .inl 0]) (st := []) mqYX11_bad ml_RX11_173 cl_11 rfl (Nat.le_of_ble_eq_true rfl) (by simp [e_cat]) rfl rfl rfl dX11_duty_29 (pc' := 32) rfl he3 ⟨Nat.le_refl _, Nat.le_refl _⟩ hmo ?_
  obtain ⟨ht4, hf5⟩ := h
  refine e_r_if_ne (tgt := 58) (pc' := 35) dX11_duty_32 rfl rfl (fun c => ?_) (fun c => ?_)
  · have h := ht4 c
    refine e_r_iconst (pc' := 59) dX11_duty_58 rfl (by decide) ?_
    exact e_r_iret (ty := .int) rfl (e_nI _) dX11_duty_59 h
  · have h := hf5 c
    refine e_r_aload_n (pc' := 36) (by decide) dX11_duty_35 rfl rfl rfl ?_
    refine e_r_iload_n (pc' := 37) dX11_duty_36 rfl rfl rfl ?_
    refine e_r_iconst (pc' := 38) dX11_duty_37 rfl (by decide) ?_
    refine e_r_iconst (pc' := 39) dX11_duty_38 rfl (by decide) ?_
    obtain ⟨r7, N6, he8, h⟩ := h
    refine e_r_callS (av := [.inl p2, .inl 0, .inl 1]) (st := [.inr (.inr 64)]) mqYX11_in ml_RX11_131 (by simp [e_cat]) rfl rfl rfl dX11_duty_39 (pc' := 42) rfl he8 ⟨Nat.le_refl _, Nat.le_refl _⟩ hmo ?_
    obtain ⟨ht9, hf10⟩ := h
    refine e_r_if_ne (tgt := 49) (pc' := 45) dX11_duty_42 rfl rfl (fun c => ?_) (fun c => ?_)
    · have h := ht9 c
      refine e_r_iconst (pc' := 50) dX11_duty_49 rfl (by decide) ?_
      exact h
    · have h := hf10 c
      refine e_r_iconst (pc' := 46) dX11_duty_45 rfl (by decide) ?_
      refine e_r_goto (pc' := 50) dX11_duty_46 rfl ?_
      exact h
theorem wp_X11_duty_50 {X : e_X} {d gn : Nat} {o : e_O} (M : e_M) (p1 p2 w0 : Int) (hmo : e_mn (557, gn, e_RF, M) o.2) (h : (∃ (r2 : Int) (N1 : e_M), e_E X d YX11_bad [.inr (.inr 64), .inl w0, .inl 2, .inl 1] (557, gn, e_RF, M) (.inl (some (.inl r2)), (557, gn, e_RF, N1)) ∧ ((r2 = 0 → e_G X (d + 1) YX11_duty 65 [some (.inr (.inr 64)), some (.inl p1), some (.inl p2), some (.inl 0), some (.inl 0)] [] (557, gn, e_RF, N1) o) ∧ (¬ (r2 = 0) → (o = (.inl (some (.inl 0)), (557, gn, e_RF, N1))))))) : e_G X (d + 1) YX11_duty 50 [some (.inr (.inr 64)), some (.inl p1), some (.inl p2), none, none] [.inl w0, .inr (.inr 64)] (557, gn, e_RF, M) o := by
  refine e_r_iconst (pc' := 51) dX11_duty_50 rfl (by decide) ?_
  refine e_r_iconst (pc' := 52) dX11_duty_51 rfl (by decide) ?_
  obtain ⟨r2, N1, he3, h⟩ := h
  refine e_r_callV (a := 64) (av := [.inl w0, .inl 2, .inl 1]) (st := []) mqYX11_bad ml_RX11_173 cl_11 rfl (Nat.le_of_ble_eq_true rfl) (by simp [e_cat]) rfl rfl rfl dX11_duty_52 (pc' := 55) rfl he3 ⟨Nat.le_refl _, Nat.le_refl _⟩ hmo ?_
  obtain ⟨ht4, hf5⟩ := h
  refine e_r_if_eq (tgt := 60) (pc' := 58) dX11_duty_55 rfl rfl (fun c => ?_) (fun c => ?_)
  · have h := ht4 c
    refine e_r_iconst (pc' := 61) dX11_duty_60 rfl (by decide) ?_
    refine e_r_istore_n (pc' := 62) (loc' := [some (.inr (.inr 64)), some (.inl p1), some (.inl p2), some (.inl 0), none]) dX11_duty_61 rfl rfl rfl rfl rfl ?_
    refine e_r_iconst (pc' := 63) dX11_duty_62 rfl (by decide) ?_
    refine e_r_istore (pc' := 65) (loc' := [some (.inr (.inr 64)), some (.inl p1), some (.inl p2), some (.inl 0), some (.inl 0)]) dX11_duty_63 rfl rfl rfl rfl ?_
    exact h
  · have h := hf5 c
    refine e_r_iconst (pc' := 59) dX11_duty_58 rfl (by decide) ?_
    exact e_r_iret (ty := .int) rfl (e_nI _) dX11_duty_59 h
theorem wp_X11_duty_65 {X : e_X} {d gn : Nat} {o : e_O} (M : e_M) (p1 p2 v3 v4 : Int) (hmo : e_mn (557, gn, e_RF, M) o.2) (h : (((M 68 0) ≤ v4 → ((¬ p2 = 0 → (o = (.inl (some (.inl v3)), (557, gn, e_RF, M)))) ∧ (p2 = 0 → ((0 ≤ p1 ∧ p1 < 6) ∧ (o = (.inl (some (.inl (M 70 p1.toNat))), (557, gn, e_RF, M))))))) ∧ (¬ ((M 68 0) ≤ v4) → ((0 ≤ v4 ∧ v4 < 6) ∧ (∃ (r8 : Int) (N7 : e_M), e_E X d YX11_has [.inl (M 72 v4.toNat), .inl p1] (557, gn, e_RF, M) (.inl (some (.inl r8)), (557, gn, e_RF, N7)) ∧ ((r8 = 0 → e_G X (d + 1) YX11_duty 65 [some (.inr (.inr 64)), some (.inl p1), some (.inl p2), some (.inl (e_or v3 0)), some (.inl (e_w (v4 + 1)))] [] (557, gn, e_RF, N7) o) ∧ (¬ (r8 = 0) → e_G X (d + 1) YX11_duty 65 [some (.inr (.inr 64)), some (.inl p1), some (.inl p2), some (.inl (e_or v3 (e_shl 1 v4))), some (.inl (e_w (v4 + 1)))] [] (557, gn, e_RF, N7) o))))))) : e_G X (d + 1) YX11_duty 65 [some (.inr (.inr 64)), some (.inl p1), some (.inl p2), some (.inl v3), some (.inl v4)] [] (557, gn, e_RF, M) o := by
  refine e_r_iload (pc' := 67) dX11_duty_65 rfl rfl ?_
  refine e_r_aload_n (pc' := 68) (by decide) dX11_duty_67 rfl rfl rfl ?_
  refine e_r_getr (k := 12) (q := 68) (pc' := 71) cl_11 rfl (Nat.le_of_ble_eq_true rfl) rfl rfl fl_RX11_23 rfl (Nat.le_of_ble_eq_true rfl) dX11_duty_68 rfl ?_
  refine e_r_iconst (pc' := 72) dX11_duty_71 rfl (by decide) ?_
  refine e_r_iald (j9 := 0) (pc' := 73) rfl (Nat.le_of_ble_eq_true rfl) (by decide) (by decide) rfl dX11_duty_72 rfl ?_
  obtain ⟨ht1, hf2⟩ := h
  refine e_r_icmp_ge (tgt := 107) (pc' := 76) dX11_duty_73 rfl rfl (fun c => ?_) (fun c => ?_)
  · have h := ht1 c
    refine e_r_iload_n (pc' := 108) dX11_duty_107 rfl rfl rfl ?_
    obtain ⟨ht3, hf4⟩ := h
    refine e_r_if_ne (tgt := 120) (pc' := 111) dX11_duty_108 rfl rfl (fun c => ?_) (fun c => ?_)
    · have h := ht3 c
      refine e_r_iload_n (pc' := 121) dX11_duty_120 rfl rfl rfl ?_
      exact e_r_iret (ty := .int) rfl (e_nI _) dX11_duty_121 h
    · have h := hf4 c
      refine e_r_aload_n (pc' := 112) (by decide) dX11_duty_111 rfl rfl rfl ?_
      refine e_r_getr (k := 14) (q := 70) (pc' := 115) cl_11 rfl (Nat.le_of_ble_eq_true rfl) rfl rfl fl_RX11_29 rfl (Nat.le_of_ble_eq_true rfl) dX11_duty_112 rfl ?_
      refine e_r_iload_n (pc' := 116) dX11_duty_115 rfl rfl rfl ?_
      obtain ⟨hb5, h⟩ := h
      refine e_r_iald (j9 := p1.toNat) (pc' := 117) rfl (Nat.le_of_ble_eq_true rfl) hb5.1 hb5.2 rfl dX11_duty_116 rfl ?_
      refine e_r_goto (pc' := 121) dX11_duty_117 rfl ?_
      exact e_r_iret (ty := .int) rfl (e_nI _) dX11_duty_121 h
  · have h := hf2 c
    refine e_r_iload_n (pc' := 77) dX11_duty_76 rfl rfl rfl ?_
    refine e_r_aload_n (pc' := 78) (by decide) dX11_duty_77 rfl rfl rfl ?_
    refine e_r_getr (k := 16) (q := 72) (pc' := 81) cl_11 rfl (Nat.le_of_ble_eq_true rfl) rfl rfl fl_RX11_35 rfl (Nat.le_of_ble_eq_true rfl) dX11_duty_78 rfl ?_
    refine e_r_iload (pc' := 83) dX11_duty_81 rfl rfl ?_
    obtain ⟨hb6, h⟩ := h
    refine e_r_iald (j9 := v4.toNat) (pc' := 84) rfl (Nat.le_of_ble_eq_true rfl) hb6.1 hb6.2 rfl dX11_duty_83 rfl ?_
    refine e_r_iload_n (pc' := 85) dX11_duty_84 rfl rfl rfl ?_
    obtain ⟨r8, N7, he9, h⟩ := h
    refine e_r_callS (av := [.inl (M 72 v4.toNat), .inl p1]) (st := [.inl v3]) mqYX11_has ml_RX11_255 (by simp [e_cat]) rfl rfl rfl dX11_duty_85 (pc' := 88) rfl he9 ⟨Nat.le_refl _, Nat.le_refl _⟩ hmo ?_
    obtain ⟨ht10, hf11⟩ := h
    refine e_r_if_eq (tgt := 98) (pc' := 91) dX11_duty_88 rfl rfl (fun c => ?_) (fun c => ?_)
    · have h := ht10 c
      refine e_r_iconst (pc' := 99) dX11_duty_98 rfl (by decide) ?_
      refine e_r_ior (pc' := 100) dX11_duty_99 rfl ?_
      refine e_r_istore_n (pc' := 101) (loc' := [some (.inr (.inr 64)), some (.inl p1), some (.inl p2), some (.inl (e_or v3 0)), some (.inl v4)]) dX11_duty_100 rfl rfl rfl rfl rfl ?_
      refine e_r_iinc (pc' := 104) (loc' := [some (.inr (.inr 64)), some (.inl p1), some (.inl p2), some (.inl (e_or v3 0)), some (.inl (e_w (v4 + 1)))]) dX11_duty_101 rfl rfl rfl rfl rfl ?_
      refine e_r_goto (pc' := 65) dX11_duty_104 rfl ?_
      exact h
    · have h := hf11 c
      refine e_r_iconst (pc' := 92) dX11_duty_91 rfl (by decide) ?_
      refine e_r_iload (pc' := 94) dX11_duty_92 rfl rfl ?_
      refine e_r_ishl (pc' := 95) dX11_duty_94 rfl ?_
      refine e_r_goto (pc' := 99) dX11_duty_95 rfl ?_
      refine e_r_ior (pc' := 100) dX11_duty_99 rfl ?_
      refine e_r_istore_n (pc' := 101) (loc' := [some (.inr (.inr 64)), some (.inl p1), some (.inl p2), some (.inl (e_or v3 (e_shl 1 v4))), some (.inl v4)]) dX11_duty_100 rfl rfl rfl rfl rfl ?_
      refine e_r_iinc (pc' := 104) (loc' := [some (.inr (.inr 64)), some (.inl p1), some (.inl p2), some (.inl (e_or v3 (e_shl 1 v4))), some (.inl (e_w (v4 + 1)))]) dX11_duty_101 rfl rfl rfl rfl rfl ?_
      refine e_r_goto (pc' := 65) dX11_duty_104 rfl ?_
      exact h
theorem wp_X11_task_0 {X : e_X} {d gn : Nat} {o : e_O} (M : e_M) (p1 p2 : Int) (hmo : e_mn (557, gn, e_RF, M) o.2) (h : (∃ (r2 : Int) (N1 : e_M), e_E X d YX11_in [.inl p1, .inl 0, .inl (e_w (((e_up M 64 0 0) 68 2) - 1))] (557, gn, e_RF, (e_up M 64 0 0)) (.inl (some (.inl r2)), (557, gn, e_RF, N1)) ∧ ((¬ r2 = 0 → e_G X (d + 1) YX11_task 27 [some (.inr (.inr 64)), some (.inl p1), some (.inl p2)] [.inl 0, .inr (.inr 64)] (557, gn, e_RF, N1) o) ∧ (r2 = 0 → e_G X (d + 1) YX11_task 27 [some (.inr (.inr 64)), some (.inl p1), some (.inl p2)] [.inl 1, .inr (.inr 64)] (557, gn, e_RF, N1) o)))) : e_G X (d + 1) YX11_task 0 [some (.inr (.inr 64)), some (.inl p1), some (.inl p2)] [] (557, gn, e_RF, M) o := by
  refine e_r_aload_n (pc' := 1) (by decide) dX11_task_0 rfl rfl rfl ?_
  refine e_r_iconst (pc' := 2) dX11_task_1 rfl (by decide) ?_
  refine e_r_puti (k := 0) (pc' := 5) cl_11 rfl (Nat.le_of_ble_eq_true rfl) rfl rfl fl_RX11_97 rfl (by decide +kernel) dX11_task_2 rfl ?_
  refine e_r_aload_n (pc' := 6) (by decide) dX11_task_5 rfl rfl rfl ?_
  refine e_r_iload_n (pc' := 7) dX11_task_6 rfl rfl rfl ?_
  refine e_r_iconst (pc' := 8) dX11_task_7 rfl (by decide) ?_
  refine e_r_aload_n (pc' := 9) (by decide) dX11_task_8 rfl rfl rfl ?_
  refine e_r_getr (k := 12) (q := 68) (pc' := 12) cl_11 rfl (Nat.le_of_ble_eq_true rfl) rfl rfl fl_RX11_23 rfl (Nat.le_of_ble_eq_true rfl) dX11_task_9 rfl ?_
  refine e_r_iconst (pc' := 13) dX11_task_12 rfl (by decide) ?_
  refine e_r_iald (j9 := 2) (pc' := 14) rfl (Nat.le_of_ble_eq_true rfl) (by decide) (by decide) rfl dX11_task_13 rfl ?_
  refine e_r_iconst (pc' := 15) dX11_task_14 rfl (by decide) ?_
  refine e_r_isub (pc' := 16) dX11_task_15 rfl ?_
  obtain ⟨r2, N1, he3, h⟩ := h
  refine e_r_callS (av := [.inl p1, .inl 0, .inl (e_w (((e_up M 64 0 0) 68 2) - 1))]) (st := [.inr (.inr 64)]) mqYX11_in ml_RX11_131 (by simp [e_cat]) rfl rfl rfl dX11_task_16 (pc' := 19) rfl he3 ⟨Nat.le_refl _, Nat.le_refl _⟩ hmo ?_
  obtain ⟨ht4, hf5⟩ := h
  refine e_r_if_ne (tgt := 26) (pc' := 22) dX11_task_19 rfl rfl (fun c => ?_) (fun c => ?_)
  · have h := ht4 c
    refine e_r_iconst (pc' := 27) dX11_task_26 rfl (by decide) ?_
    exact h
  · have h := hf5 c
    refine e_r_iconst (pc' := 23) dX11_task_22 rfl (by decide) ?_
    refine e_r_goto (pc' := 27) dX11_task_23 rfl ?_
    exact h
theorem wp_X11_task_27 {X : e_X} {d gn : Nat} {o : e_O} (M : e_M) (p1 p2 w0 : Int) (hmo : e_mn (557, gn, e_RF, M) o.2) (h : (∃ (r2 : Int) (N1 : e_M), e_E X d YX11_bad [.inr (.inr 64), .inl w0, .inl 1, .inl 0] (557, gn, e_RF, M) (.inl (some (.inl r2)), (557, gn, e_RF, N1)) ∧ ((¬ r2 = 0 → (o = (.inl (some (.inl 0)), (557, gn, e_RF, N1)))) ∧ (r2 = 0 → (∃ (r7 : Int) (N6 : e_M), e_E X d YX11_in [.inl p2, .inl 0, .inl 3] (557, gn, e_RF, N1) (.inl (some (.inl r7)), (557, gn, e_RF, N6)) ∧ ((¬ r7 = 0 → e_G X (d + 1) YX11_task 50 [some (.inr (.inr 64)), some (.inl p1), some (.inl p2)] [.inl 0, .inr (.inr 64)] (557, gn, e_RF, N6) o) ∧ (r7 = 0 → e_G X (d + 1) YX11_task 50 [some (.inr (.inr 64)), some (.inl p1), some (.inl p2)] [.inl 1, .inr (.inr 64)] (557, gn, e_RF, N6) o))))))) : e_G X (d + 1) YX11_task 27 [some (.inr (.inr 64)), some (.inl p1), some (.inl p2)] [.inl w0, .inr (.inr 64)] (557, gn, e_RF, M) o := by
  refine e_r_iconst (pc' := 28) dX11_task_27 rfl (by decide) ?_
  refine e_r_iconst (pc' := 29) dX11_task_28 rfl (by decide) ?_
  obtain ⟨r2, N1, he3, h⟩ := h
  refine e_r_callV (a := 64) (av := [.inl w0, .inl 1, .inl 0]) (st := []) mqYX11_bad ml_RX11_173 cl_11 rfl (Nat.le_of_ble_eq_true rfl) (by simp [e_cat]) rfl rfl rfl dX11_task_29 (pc' := 32) rfl he3 ⟨Nat.le_refl _, Nat.le_refl _⟩ hmo ?_
  obtain ⟨ht4, hf5⟩ := h
  refine e_r_if_ne (tgt := 58) (pc' := 35) dX11_task_32 rfl rfl (fun c => ?_) (fun c => ?_)
  · have h := ht4 c
    refine e_r_iconst (pc' := 59) dX11_task_58 rfl (by decide) ?_
    exact e_r_iret (ty := .int) rfl (e_nI _) dX11_task_59 h
  · have h := hf5 c
    refine e_r_aload_n (pc' := 36) (by decide) dX11_task_35 rfl rfl rfl ?_
    refine e_r_iload_n (pc' := 37) dX11_task_36 rfl rfl rfl ?_
    refine e_r_iconst (pc' := 38) dX11_task_37 rfl (by decide) ?_
    refine e_r_iconst (pc' := 39) dX11_task_38 rfl (by decide) ?_
    obtain ⟨r7, N6, he8, h⟩ := h
    refine e_r_callS (av := [.inl p2, .inl 0, .inl 3]) (st := [.inr (.inr 64)]) mqYX11_in ml_RX11_131 (by simp [e_cat]) rfl rfl rfl dX11_task_39 (pc' := 42) rfl he8 ⟨Nat.le_refl _, Nat.le_refl _⟩ hmo ?_
    obtain ⟨ht9, hf10⟩ := h
    refine e_r_if_ne (tgt := 49) (pc' := 45) dX11_task_42 rfl rfl (fun c => ?_) (fun c => ?_)
    · have h := ht9 c
      refine e_r_iconst (pc' := 50) dX11_task_49 rfl (by decide) ?_
      exact h
    · have h := hf10 c
      refine e_r_iconst (pc' := 46) dX11_task_45 rfl (by decide) ?_
      refine e_r_goto (pc' := 50) dX11_task_46 rfl ?_
      exact h
theorem wp_X11_task_50 {X : e_X} {d gn : Nat} {o : e_O} (M : e_M) (p1 p2 w0 : Int) (hmo : e_mn (557, gn, e_RF, M) o.2) (h : (∃ (r2 : Int) (N1 : e_M), e_E X d YX11_bad [.inr (.inr 64), .inl w0, .inl 2, .inl 1] (557, gn, e_RF, M) (.inl (some (.inl r2)), (557, gn, e_RF, N1)) ∧ ((r2 = 0 → ((¬ p2 = 1 → ((¬ p2 = 3 → ((0 ≤ p1 ∧ p1 < 12) ∧ ((0 ≤ p2 ∧ p2 < 3) ∧ (o = (.inl (some (.inl (N1 (101 + p1.toNat) p2.toNat))), (557, gn, e_RF, N1)))))) ∧ (p2 = 3 → ((0 ≤ (e_w (42 + p1)) ∧ (e_w (42 + p1)) < 56) ∧ (o = (.inl (some (.inl (N1 532 (e_w (42 + p1)).toNat))), (557, gn, e_RF, N1))))))) ∧ (p2 = 1 → ((0 ≤ (e_w (30 + p1)) ∧ (e_w (30 + p1)) < 56) ∧ (o = (.inl (some (.inl (N1 532 (e_w (30 + p1)).toNat))), (557, gn, e_RF, N1))))))) ∧ (¬ (r2 = 0) → (o = (.inl (some (.inl 0)), (557, gn, e_RF, N1))))))) : e_G X (d + 1) YX11_task 50 [some (.inr (.inr 64)), some (.inl p1), some (.inl p2)] [.inl w0, .inr (.inr 64)] (557, gn, e_RF, M) o := by
  refine e_r_iconst (pc' := 51) dX11_task_50 rfl (by decide) ?_
  refine e_r_iconst (pc' := 52) dX11_task_51 rfl (by decide) ?_
  obtain ⟨r2, N1, he3, h⟩ := h
  refine e_r_callV (a := 64) (av := [.inl w0, .inl 2, .inl 1]) (st := []) mqYX11_bad ml_RX11_173 cl_11 rfl (Nat.le_of_ble_eq_true rfl) (by simp [e_cat]) rfl rfl rfl dX11_task_52 (pc' := 55) rfl he3 ⟨Nat.le_refl _, Nat.le_refl _⟩ hmo ?_
  obtain ⟨ht4, hf5⟩ := h
  refine e_r_if_eq (tgt := 60) (pc' := 58) dX11_task_55 rfl rfl (fun c => ?_) (fun c => ?_)
  · have h := ht4 c
    refine e_r_iload_n (pc' := 61) dX11_task_60 rfl rfl rfl ?_
    refine e_r_iconst (pc' := 62) dX11_task_61 rfl (by decide) ?_
    obtain ⟨ht6, hf7⟩ := h
    refine e_r_icmp_ne (tgt := 77) (pc' := 65) dX11_task_62 rfl rfl (fun c => ?_) (fun c => ?_)
    · have h := ht6 c
      refine e_r_iload_n (pc' := 78) dX11_task_77 rfl rfl rfl ?_
      refine e_r_iconst (pc' := 79) dX11_task_78 rfl (by decide) ?_
      obtain ⟨ht8, hf9⟩ := h
      refine e_r_icmp_ne (tgt := 94) (pc' := 82) dX11_task_79 rfl rfl (fun c => ?_) (fun c => ?_)
      · have h := ht8 c
        refine e_r_aload_n (pc' := 95) (by decide) dX11_task_94 rfl rfl rfl ?_
        refine e_r_getr (k := 20) (q := 100) (pc' := 98) cl_11 rfl (Nat.le_of_ble_eq_true rfl) rfl rfl fl_RX11_49 rfl (Nat.le_of_ble_eq_true rfl) dX11_task_95 rfl ?_
        refine e_r_iload_n (pc' := 99) dX11_task_98 rfl rfl rfl ?_
        obtain ⟨hb10, h⟩ := h
        refine e_r_aldr (q := (101 + p1.toNat)) (pc' := 100) rfl (Nat.le_of_ble_eq_true rfl) hb10.1 hb10.2 rfl (sh_100 hb10.1 hb10.2).2.1 dX11_task_99 rfl ?_
        refine e_r_iload_n (pc' := 101) dX11_task_100 rfl rfl rfl ?_
        obtain ⟨hb11, h⟩ := h
        refine e_r_iald (j9 := p2.toNat) (pc' := 102) (sh_100 hb10.1 hb10.2).1 (sh_100 hb10.1 hb10.2).2.1 hb11.1 hb11.2 rfl dX11_task_101 rfl ?_
        exact e_r_iret (ty := .int) rfl (e_nI _) dX11_task_102 h
      · have h := hf9 c
        refine e_r_aload_n (pc' := 83) (by decide) dX11_task_82 rfl rfl rfl ?_
        refine e_r_getr (k := 31) (q := 532) (pc' := 86) cl_11 rfl (Nat.le_of_ble_eq_true rfl) rfl rfl fl_RX11_73 rfl (Nat.le_of_ble_eq_true rfl) dX11_task_83 rfl ?_
        refine e_r_bipush (pc' := 88) dX11_task_86 rfl (by decide) ?_
        refine e_r_iload_n (pc' := 89) dX11_task_88 rfl rfl rfl ?_
        refine e_r_iadd (pc' := 90) dX11_task_89 rfl ?_
        obtain ⟨hb12, h⟩ := h
        refine e_r_iald (j9 := (e_w (42 + p1)).toNat) (pc' := 91) rfl (Nat.le_of_ble_eq_true rfl) hb12.1 hb12.2 rfl dX11_task_90 rfl ?_
        refine e_r_goto (pc' := 102) dX11_task_91 rfl ?_
        exact e_r_iret (ty := .int) rfl (e_nI _) dX11_task_102 h
    · have h := hf7 c
      refine e_r_aload_n (pc' := 66) (by decide) dX11_task_65 rfl rfl rfl ?_
      refine e_r_getr (k := 31) (q := 532) (pc' := 69) cl_11 rfl (Nat.le_of_ble_eq_true rfl) rfl rfl fl_RX11_73 rfl (Nat.le_of_ble_eq_true rfl) dX11_task_66 rfl ?_
      refine e_r_bipush (pc' := 71) dX11_task_69 rfl (by decide) ?_
      refine e_r_iload_n (pc' := 72) dX11_task_71 rfl rfl rfl ?_
      refine e_r_iadd (pc' := 73) dX11_task_72 rfl ?_
      obtain ⟨hb13, h⟩ := h
      refine e_r_iald (j9 := (e_w (30 + p1)).toNat) (pc' := 74) rfl (Nat.le_of_ble_eq_true rfl) hb13.1 hb13.2 rfl dX11_task_73 rfl ?_
      refine e_r_goto (pc' := 102) dX11_task_74 rfl ?_
      exact e_r_iret (ty := .int) rfl (e_nI _) dX11_task_102 h
  · have h := hf5 c
    refine e_r_iconst (pc' := 59) dX11_task_58 rfl (by decide) ?_
    exact e_r_iret (ty := .int) rfl (e_nI _) dX11_task_59 h
theorem wp_X11_price_0 {X : e_X} {d gn : Nat} {o : e_O} (M : e_M) (p1 : Int) (hmo : e_mn (557, gn, e_RF, M) o.2) (h : (∃ (r2 : Int) (N1 : e_M), e_E X d YX11_isPerson [.inr (.inr 64), .inl p1] (557, gn, e_RF, (e_up M 64 0 0)) (.inl (some (.inl r2)), (557, gn, e_RF, N1)) ∧ ((¬ r2 = 0 → e_G X (d + 1) YX11_price 19 [some (.inr (.inr 64)), some (.inl p1)] [.inl 0, .inr (.inr 64)] (557, gn, e_RF, N1) o) ∧ (r2 = 0 → e_G X (d + 1) YX11_price 19 [some (.inr (.inr 64)), some (.inl p1)] [.inl 1, .inr (.inr 64)] (557, gn, e_RF, N1) o)))) : e_G X (d + 1) YX11_price 0 [some (.inr (.inr 64)), some (.inl p1)] [] (557, gn, e_RF, M) o := by
  refine e_r_aload_n (pc' := 1) (by decide) dX11_price_0 rfl rfl rfl ?_
  refine e_r_iconst (pc' := 2) dX11_price_1 rfl (by decide) ?_
  refine e_r_puti (k := 0) (pc' := 5) cl_11 rfl (Nat.le_of_ble_eq_true rfl) rfl rfl fl_RX11_97 rfl (by decide +kernel) dX11_price_2 rfl ?_
  refine e_r_aload_n (pc' := 6) (by decide) dX11_price_5 rfl rfl rfl ?_
  refine e_r_aload_n (pc' := 7) (by decide) dX11_price_6 rfl rfl rfl ?_
  refine e_r_iload_n (pc' := 8) dX11_price_7 rfl rfl rfl ?_
  obtain ⟨r2, N1, he3, h⟩ := h
  refine e_r_callV (a := 64) (av := [.inl p1]) (st := [.inr (.inr 64)]) mqYX11_isPerson ml_RX11_325 cl_11 rfl (Nat.le_of_ble_eq_true rfl) (by simp [e_cat]) rfl rfl rfl dX11_price_8 (pc' := 11) rfl he3 ⟨Nat.le_refl _, Nat.le_refl _⟩ hmo ?_
  obtain ⟨ht4, hf5⟩ := h
  refine e_r_if_ne (tgt := 18) (pc' := 14) dX11_price_11 rfl rfl (fun c => ?_) (fun c => ?_)
  · have h := ht4 c
    refine e_r_iconst (pc' := 19) dX11_price_18 rfl (by decide) ?_
    exact h
  · have h := hf5 c
    refine e_r_iconst (pc' := 15) dX11_price_14 rfl (by decide) ?_
    refine e_r_goto (pc' := 19) dX11_price_15 rfl ?_
    exact h
theorem wp_X11_price_19 {X : e_X} {d gn : Nat} {o : e_O} (M : e_M) (p1 w0 : Int) (hmo : e_mn (557, gn, e_RF, M) o.2) (h : (∃ (r2 : Int) (N1 : e_M), e_E X d YX11_bad [.inr (.inr 64), .inl w0, .inl 1, .inl 0] (557, gn, e_RF, M) (.inl (some (.inl r2)), (557, gn, e_RF, N1)) ∧ ((r2 = 0 → (∃ (r7 : Int) (N6 : e_M), e_E X d YX11_priceOf [.inr (.inr 64), .inr (.inr 532), .inl p1] (557, gn, e_RF, N1) (.inl (some (.inl r7)), (557, gn, e_RF, N6)) ∧ (o = (.inl (some (.inl r7)), (557, gn, e_RF, N6))))) ∧ (¬ (r2 = 0) → (o = (.inl (some (.inl 0)), (557, gn, e_RF, N1))))))) : e_G X (d + 1) YX11_price 19 [some (.inr (.inr 64)), some (.inl p1)] [.inl w0, .inr (.inr 64)] (557, gn, e_RF, M) o := by
  refine e_r_iconst (pc' := 20) dX11_price_19 rfl (by decide) ?_
  refine e_r_iconst (pc' := 21) dX11_price_20 rfl (by decide) ?_
  obtain ⟨r2, N1, he3, h⟩ := h
  refine e_r_callV (a := 64) (av := [.inl w0, .inl 1, .inl 0]) (st := []) mqYX11_bad ml_RX11_173 cl_11 rfl (Nat.le_of_ble_eq_true rfl) (by simp [e_cat]) rfl rfl rfl dX11_price_21 (pc' := 24) rfl he3 ⟨Nat.le_refl _, Nat.le_refl _⟩ hmo ?_
  obtain ⟨ht4, hf5⟩ := h
  refine e_r_if_eq (tgt := 29) (pc' := 27) dX11_price_24 rfl rfl (fun c => ?_) (fun c => ?_)
  · have h := ht4 c
    refine e_r_aload_n (pc' := 30) (by decide) dX11_price_29 rfl rfl rfl ?_
    refine e_r_aload_n (pc' := 31) (by decide) dX11_price_30 rfl rfl rfl ?_
    refine e_r_getr (k := 31) (q := 532) (pc' := 34) cl_11 rfl (Nat.le_of_ble_eq_true rfl) rfl rfl fl_RX11_73 rfl (Nat.le_of_ble_eq_true rfl) dX11_price_31 rfl ?_
    refine e_r_iload_n (pc' := 35) dX11_price_34 rfl rfl rfl ?_
    obtain ⟨r7, N6, he8, h⟩ := h
    refine e_r_callV (a := 64) (av := [.inr (.inr 532), .inl p1]) (st := []) mqYX11_priceOf ml_RX11_279 cl_11 rfl (Nat.le_of_ble_eq_true rfl) (by simp [e_cat]) rfl rfl rfl dX11_price_35 (pc' := 38) rfl he8 ⟨Nat.le_refl _, Nat.le_refl _⟩ hmo ?_
    exact e_r_iret (ty := .int) rfl (e_nI _) dX11_price_38 h
  · have h := hf5 c
    refine e_r_iconst (pc' := 28) dX11_price_27 rfl (by decide) ?_
    exact e_r_iret (ty := .int) rfl (e_nI _) dX11_price_28 h
theorem wp_X11_would_0 {X : e_X} {d gn : Nat} {o : e_O} (M : e_M) (p1 p2 p3 p4 p5 p6 p7 p8 : Int) (hmo : e_mn (557, gn, e_RF, M) o.2) (h : (∃ (r2 : Int) (N1 : e_M), e_E X d YX11_in [.inl p1, .inl 0, .inl 300] (557, gn, e_RF, (e_up M 64 0 0)) (.inl (some (.inl r2)), (557, gn, e_RF, N1)) ∧ ((r2 = 0 → e_G X (d + 1) YX11_would 92 [some (.inr (.inr 64)), some (.inl p1), some (.inl p2), some (.inl p3), some (.inl p4), some (.inl p5), some (.inl p6), some (.inl p7), some (.inl p8)] [.inr (.inr 64)] (557, gn, e_RF, N1) o) ∧ (¬ (r2 = 0) → (∃ (r7 : Int) (N6 : e_M), e_E X d YX11_in [.inl p2, .inl 0, .inl 5] (557, gn, e_RF, N1) (.inl (some (.inl r7)), (557, gn, e_RF, N6)) ∧ ((r7 = 0 → e_G X (d + 1) YX11_would 92 [some (.inr (.inr 64)), some (.inl p1), some (.inl p2), some (.inl p3), some (.inl p4), some (.inl p5), some (.inl p6), some (.inl p7), some (.inl p8)] [.inr (.inr 64)] (557, gn, e_RF, N6) o) ∧ (¬ (r7 = 0) → (∃ (r12 : Int) (N11 : e_M), e_E X d YX11_in [.inl p3, .inl 0, .inl 999] (557, gn, e_RF, N6) (.inl (some (.inl r12)), (557, gn, e_RF, N11)) ∧ ((r12 = 0 → e_G X (d + 1) YX11_would 92 [some (.inr (.inr 64)), some (.inl p1), some (.inl p2), some (.inl p3), some (.inl p4), some (.inl p5), some (.inl p6), some (.inl p7), some (.inl p8)] [.inr (.inr 64)] (557, gn, e_RF, N11) o) ∧ (¬ (r12 = 0) → (∃ (r17 : Int) (N16 : e_M), e_E X d YX11_in [.inl p4, .inl 0, .inl 999] (557, gn, e_RF, N11) (.inl (some (.inl r17)), (557, gn, e_RF, N16)) ∧ ((r17 = 0 → e_G X (d + 1) YX11_would 92 [some (.inr (.inr 64)), some (.inl p1), some (.inl p2), some (.inl p3), some (.inl p4), some (.inl p5), some (.inl p6), some (.inl p7), some (.inl p8)] [.inr (.inr 64)] (557, gn, e_RF, N16) o) ∧ (¬ (r17 = 0) → (∃ (r22 : Int) (N21 : e_M), e_E X d YX11_in [.inl p5, .inl 0, .inl 30] (557, gn, e_RF, N16) (.inl (some (.inl r22)), (557, gn, e_RF, N21)) ∧ ((r22 = 0 → e_G X (d + 1) YX11_would 92 [some (.inr (.inr 64)), some (.inl p1), some (.inl p2), some (.inl p3), some (.inl p4), some (.inl p5), some (.inl p6), some (.inl p7), some (.inl p8)] [.inr (.inr 64)] (557, gn, e_RF, N21) o) ∧ (¬ (r22 = 0) → (∃ (r27 : Int) (N26 : e_M), e_E X d YX11_in [.inl p6, .inl 0, .inl 6] (557, gn, e_RF, N21) (.inl (some (.inl r27)), (557, gn, e_RF, N26)) ∧ ((r27 = 0 → e_G X (d + 1) YX11_would 92 [some (.inr (.inr 64)), some (.inl p1), some (.inl p2), some (.inl p3), some (.inl p4), some (.inl p5), some (.inl p6), some (.inl p7), some (.inl p8)] [.inr (.inr 64)] (557, gn, e_RF, N26) o) ∧ (¬ (r27 = 0) → (∃ (r32 : Int) (N31 : e_M), e_E X d YX11_in [.inl p7, .inl 0, .inl 12] (557, gn, e_RF, N26) (.inl (some (.inl r32)), (557, gn, e_RF, N31)) ∧ ((r32 = 0 → e_G X (d + 1) YX11_would 92 [some (.inr (.inr 64)), some (.inl p1), some (.inl p2), some (.inl p3), some (.inl p4), some (.inl p5), some (.inl p6), some (.inl p7), some (.inl p8)] [.inr (.inr 64)] (557, gn, e_RF, N31) o) ∧ (¬ (r32 = 0) → (∃ (r37 : Int) (N36 : e_M), e_E X d YX11_in [.inl p8, .inl 0, .inl 5] (557, gn, e_RF, N31) (.inl (some (.inl r37)), (557, gn, e_RF, N36)) ∧ ((¬ r37 = 0 → e_G X (d + 1) YX11_would 97 [some (.inr (.inr 64)), some (.inl p1), some (.inl p2), some (.inl p3), some (.inl p4), some (.inl p5), some (.inl p6), some (.inl p7), some (.inl p8)] [.inl 0, .inr (.inr 64)] (557, gn, e_RF, N36) o) ∧ (r37 = 0 → e_G X (d + 1) YX11_would 92 [some (.inr (.inr 64)), some (.inl p1), some (.inl p2), some (.inl p3), some (.inl p4), some (.inl p5), some (.inl p6), some (.inl p7), some (.inl p8)] [.inr (.inr 64)] (557, gn, e_RF, N36) o))))))))))))))))))))))))) : e_G X (d + 1) YX11_would 0 [some (.inr (.inr 64)), some (.inl p1), some (.inl p2), some (.inl p3), some (.inl p4), some (.inl p5), some (.inl p6), some (.inl p7), some (.inl p8)] [] (557, gn, e_RF, M) o := by
  refine e_r_aload_n (pc' := 1) (by decide) dX11_would_0 rfl rfl rfl ?_
  refine e_r_iconst (pc' := 2) dX11_would_1 rfl (by decide) ?_
  refine e_r_puti (k := 0) (pc' := 5) cl_11 rfl (Nat.le_of_ble_eq_true rfl) rfl rfl fl_RX11_97 rfl (by decide +kernel) dX11_would_2 rfl ?_
  refine e_r_aload_n (pc' := 6) (by decide) dX11_would_5 rfl rfl rfl ?_
  refine e_r_iload_n (pc' := 7) dX11_would_6 rfl rfl rfl ?_
  refine e_r_iconst (pc' := 8) dX11_would_7 rfl (by decide) ?_
  refine e_r_sipush (pc' := 11) dX11_would_8 rfl (by decide) ?_
  obtain ⟨r2, N1, he3, h⟩ := h
  refine e_r_callS (av := [.inl p1, .inl 0, .inl 300]) (st := [.inr (.inr 64)]) mqYX11_in ml_RX11_131 (by simp [e_cat]) rfl rfl rfl dX11_would_11 (pc' := 14) rfl he3 ⟨Nat.le_refl _, Nat.le_refl _⟩ hmo ?_
  obtain ⟨ht4, hf5⟩ := h
  refine e_r_if_eq (tgt := 92) (pc' := 17) dX11_would_14 rfl rfl (fun c => ?_) (fun c => ?_)
  · have h := ht4 c
    exact h
  · have h := hf5 c
    refine e_r_iload_n (pc' := 18) dX11_would_17 rfl rfl rfl ?_
    refine e_r_iconst (pc' := 19) dX11_would_18 rfl (by decide) ?_
    refine e_r_iconst (pc' := 20) dX11_would_19 rfl (by decide) ?_
    obtain ⟨r7, N6, he8, h⟩ := h
    refine e_r_callS (av := [.inl p2, .inl 0, .inl 5]) (st := [.inr (.inr 64)]) mqYX11_in ml_RX11_131 (by simp [e_cat]) rfl rfl rfl dX11_would_20 (pc' := 23) rfl he8 ⟨Nat.le_refl _, Nat.le_refl _⟩ hmo ?_
    obtain ⟨ht9, hf10⟩ := h
    refine e_r_if_eq (tgt := 92) (pc' := 26) dX11_would_23 rfl rfl (fun c => ?_) (fun c => ?_)
    · have h := ht9 c
      exact h
    · have h := hf10 c
      refine e_r_iload_n (pc' := 27) dX11_would_26 rfl rfl rfl ?_
      refine e_r_iconst (pc' := 28) dX11_would_27 rfl (by decide) ?_
      refine e_r_sipush (pc' := 31) dX11_would_28 rfl (by decide) ?_
      obtain ⟨r12, N11, he13, h⟩ := h
      refine e_r_callS (av := [.inl p3, .inl 0, .inl 999]) (st := [.inr (.inr 64)]) mqYX11_in ml_RX11_131 (by simp [e_cat]) rfl rfl rfl dX11_would_31 (pc' := 34) rfl he13 ⟨Nat.le_refl _, Nat.le_refl _⟩ hmo ?_
      obtain ⟨ht14, hf15⟩ := h
      refine e_r_if_eq (tgt := 92) (pc' := 37) dX11_would_34 rfl rfl (fun c => ?_) (fun c => ?_)
      · have h := ht14 c
        exact h
      · have h := hf15 c
        refine e_r_iload (pc' := 39) dX11_would_37 rfl rfl ?_
        refine e_r_iconst (pc' := 40) dX11_would_39 rfl (by decide) ?_
        refine e_r_sipush (pc' := 43) dX11_would_40 rfl (by decide) ?_
        obtain ⟨r17, N16, he18, h⟩ := h
        refine e_r_callS (av := [.inl p4, .inl 0, .inl 999]) (st := [.inr (.inr 64)]) mqYX11_in ml_RX11_131 (by simp [e_cat]) rfl rfl rfl dX11_would_43 (pc' := 46) rfl he18 ⟨Nat.le_refl _, Nat.le_refl _⟩ hmo ?_
        obtain ⟨ht19, hf20⟩ := h
        refine e_r_if_eq (tgt := 92) (pc' := 49) dX11_would_46 rfl rfl (fun c => ?_) (fun c => ?_)
        · have h := ht19 c
          exact h
        · have h := hf20 c
          refine e_r_iload (pc' := 51) dX11_would_49 rfl rfl ?_
          refine e_r_iconst (pc' := 52) dX11_would_51 rfl (by decide) ?_
          refine e_r_bipush (pc' := 54) dX11_would_52 rfl (by decide) ?_
          obtain ⟨r22, N21, he23, h⟩ := h
          refine e_r_callS (av := [.inl p5, .inl 0, .inl 30]) (st := [.inr (.inr 64)]) mqYX11_in ml_RX11_131 (by simp [e_cat]) rfl rfl rfl dX11_would_54 (pc' := 57) rfl he23 ⟨Nat.le_refl _, Nat.le_refl _⟩ hmo ?_
          obtain ⟨ht24, hf25⟩ := h
          refine e_r_if_eq (tgt := 92) (pc' := 60) dX11_would_57 rfl rfl (fun c => ?_) (fun c => ?_)
          · have h := ht24 c
            exact h
          · have h := hf25 c
            refine e_r_iload (pc' := 62) dX11_would_60 rfl rfl ?_
            refine e_r_iconst (pc' := 63) dX11_would_62 rfl (by decide) ?_
            refine e_r_bipush (pc' := 65) dX11_would_63 rfl (by decide) ?_
            obtain ⟨r27, N26, he28, h⟩ := h
            refine e_r_callS (av := [.inl p6, .inl 0, .inl 6]) (st := [.inr (.inr 64)]) mqYX11_in ml_RX11_131 (by simp [e_cat]) rfl rfl rfl dX11_would_65 (pc' := 68) rfl he28 ⟨Nat.le_refl _, Nat.le_refl _⟩ hmo ?_
            obtain ⟨ht29, hf30⟩ := h
            refine e_r_if_eq (tgt := 92) (pc' := 71) dX11_would_68 rfl rfl (fun c => ?_) (fun c => ?_)
            · have h := ht29 c
              exact h
            · have h := hf30 c
              refine e_r_iload (pc' := 73) dX11_would_71 rfl rfl ?_
              refine e_r_iconst (pc' := 74) dX11_would_73 rfl (by decide) ?_
              refine e_r_bipush (pc' := 76) dX11_would_74 rfl (by decide) ?_
              obtain ⟨r32, N31, he33, h⟩ := h
              refine e_r_callS (av := [.inl p7, .inl 0, .inl 12]) (st := [.inr (.inr 64)]) mqYX11_in ml_RX11_131 (by simp [e_cat]) rfl rfl rfl dX11_would_76 (pc' := 79) rfl he33 ⟨Nat.le_refl _, Nat.le_refl _⟩ hmo ?_
              obtain ⟨ht34, hf35⟩ := h
              refine e_r_if_eq (tgt := 92) (pc' := 82) dX11_would_79 rfl rfl (fun c => ?_) (fun c => ?_)
              · have h := ht34 c
                exact h
              · have h := hf35 c
                refine e_r_iload (pc' := 84) dX11_would_82 rfl rfl ?_
                refine e_r_iconst (pc' := 85) dX11_would_84 rfl (by decide) ?_
                refine e_r_iconst (pc' := 86) dX11_would_85 rfl (by decide) ?_
                obtain ⟨r37, N36, he38, h⟩ := h
                refine e_r_callS (av := [.inl p8, .inl 0, .inl 5]) (st := [.inr (.inr 64)]) mqYX11_in ml_RX11_131 (by simp [e_cat]) rfl rfl rfl dX11_would_86 (pc' := 89) rfl he38 ⟨Nat.le_refl _, Nat.le_refl _⟩ hmo ?_
                obtain ⟨ht39, hf40⟩ := h
                refine e_r_if_ne (tgt := 96) (pc' := 92) dX11_would_89 rfl rfl (fun c => ?_) (fun c => ?_)
                · have h := ht39 c
                  refine e_r_iconst (pc' := 97) dX11_would_96 rfl (by decide) ?_
                  exact h
                · have h := hf40 c
                  exact h
theorem wp_X11_would_97 {X : e_X} {d gn : Nat} {o : e_O} (M : e_M) (p1 p2 p3 p4 p5 p6 p7 p8 w0 : Int) (hmo : e_mn (557, gn, e_RF, M) o.2) (h : (∃ (r2 : Int) (N1 : e_M), e_E X d YX11_bad [.inr (.inr 64), .inl w0, .inl 1, .inl 1] (557, gn, e_RF, M) (.inl (some (.inl r2)), (557, gn, e_RF, N1)) ∧ ((r2 = 0 → (∃ (r7 : Int) (N6 : e_M), e_E X d YX11_priceBy [.inr (.inr 64), .inl p1, .inl p2, .inl p3, .inl p4, .inl p5, .inl p6, .inl p7, .inl p8] (557, gn, e_RF, N1) (.inl (some (.inl r7)), (557, gn, e_RF, N6)) ∧ (o = (.inl (some (.inl r7)), (557, gn, e_RF, N6))))) ∧ (¬ (r2 = 0) → (o = (.inl (some (.inl 0)), (557, gn, e_RF, N1))))))) : e_G X (d + 1) YX11_would 97 [some (.inr (.inr 64)), some (.inl p1), some (.inl p2), some (.inl p3), some (.inl p4), some (.inl p5), some (.inl p6), some (.inl p7), some (.inl p8)] [.inl w0, .inr (.inr 64)] (557, gn, e_RF, M) o := by
  refine e_r_iconst (pc' := 98) dX11_would_97 rfl (by decide) ?_
  refine e_r_iconst (pc' := 99) dX11_would_98 rfl (by decide) ?_
  obtain ⟨r2, N1, he3, h⟩ := h
  refine e_r_callV (a := 64) (av := [.inl w0, .inl 1, .inl 1]) (st := []) mqYX11_bad ml_RX11_173 cl_11 rfl (Nat.le_of_ble_eq_true rfl) (by simp [e_cat]) rfl rfl rfl dX11_would_99 (pc' := 102) rfl he3 ⟨Nat.le_refl _, Nat.le_refl _⟩ hmo ?_
  obtain ⟨ht4, hf5⟩ := h
  refine e_r_if_eq (tgt := 107) (pc' := 105) dX11_would_102 rfl rfl (fun c => ?_) (fun c => ?_)
  · have h := ht4 c
    refine e_r_aload_n (pc' := 108) (by decide) dX11_would_107 rfl rfl rfl ?_
    refine e_r_iload_n (pc' := 109) dX11_would_108 rfl rfl rfl ?_
    refine e_r_iload_n (pc' := 110) dX11_would_109 rfl rfl rfl ?_
    refine e_r_iload_n (pc' := 111) dX11_would_110 rfl rfl rfl ?_
    refine e_r_iload (pc' := 113) dX11_would_111 rfl rfl ?_
    refine e_r_iload (pc' := 115) dX11_would_113 rfl rfl ?_
    refine e_r_iload (pc' := 117) dX11_would_115 rfl rfl ?_
    refine e_r_iload (pc' := 119) dX11_would_117 rfl rfl ?_
    refine e_r_iload (pc' := 121) dX11_would_119 rfl rfl ?_
    obtain ⟨r7, N6, he8, h⟩ := h
    refine e_r_callV (a := 64) (av := [.inl p1, .inl p2, .inl p3, .inl p4, .inl p5, .inl p6, .inl p7, .inl p8]) (st := []) mqYX11_priceBy ml_RX11_275 cl_11 rfl (Nat.le_of_ble_eq_true rfl) (by simp [e_cat]) rfl rfl rfl dX11_would_121 (pc' := 124) rfl he8 ⟨Nat.le_refl _, Nat.le_refl _⟩ hmo ?_
    exact e_r_iret (ty := .int) rfl (e_nI _) dX11_would_124 h
  · have h := hf5 c
    refine e_r_iconst (pc' := 106) dX11_would_105 rfl (by decide) ?_
    exact e_r_iret (ty := .int) rfl (e_nI _) dX11_would_106 h
theorem wp_X11_would_92 {X : e_X} {d gn : Nat} {o : e_O} (M : e_M) (p1 p2 p3 p4 p5 p6 p7 p8 : Int) (h : e_G X (d + 1) YX11_would 97 [some (.inr (.inr 64)), some (.inl p1), some (.inl p2), some (.inl p3), some (.inl p4), some (.inl p5), some (.inl p6), some (.inl p7), some (.inl p8)] [.inl 1, .inr (.inr 64)] (557, gn, e_RF, M) o) : e_G X (d + 1) YX11_would 92 [some (.inr (.inr 64)), some (.inl p1), some (.inl p2), some (.inl p3), some (.inl p4), some (.inl p5), some (.inl p6), some (.inl p7), some (.inl p8)] [.inr (.inr 64)] (557, gn, e_RF, M) o := by
  refine e_r_iconst (pc' := 93) dX11_would_92 rfl (by decide) ?_
  refine e_r_goto (pc' := 97) dX11_would_93 rfl ?_
  exact h
theorem wp_X11_can_0 {X : e_X} {d gn : Nat} {o : e_O} (M : e_M) (p1 : Int) (hmo : e_mn (557, gn, e_RF, M) o.2) (h : (∃ (r2 : Int) (N1 : e_M), e_E X d YX11_isPerson [.inr (.inr 64), .inl p1] (557, gn, e_RF, (e_up M 64 0 0)) (.inl (some (.inl r2)), (557, gn, e_RF, N1)) ∧ ((¬ r2 = 0 → e_G X (d + 1) YX11_can 19 [some (.inr (.inr 64)), some (.inl p1)] [.inl 0, .inr (.inr 64)] (557, gn, e_RF, N1) o) ∧ (r2 = 0 → e_G X (d + 1) YX11_can 19 [some (.inr (.inr 64)), some (.inl p1)] [.inl 1, .inr (.inr 64)] (557, gn, e_RF, N1) o)))) : e_G X (d + 1) YX11_can 0 [some (.inr (.inr 64)), some (.inl p1)] [] (557, gn, e_RF, M) o := by
  refine e_r_aload_n (pc' := 1) (by decide) dX11_can_0 rfl rfl rfl ?_
  refine e_r_iconst (pc' := 2) dX11_can_1 rfl (by decide) ?_
  refine e_r_puti (k := 0) (pc' := 5) cl_11 rfl (Nat.le_of_ble_eq_true rfl) rfl rfl fl_RX11_97 rfl (by decide +kernel) dX11_can_2 rfl ?_
  refine e_r_aload_n (pc' := 6) (by decide) dX11_can_5 rfl rfl rfl ?_
  refine e_r_aload_n (pc' := 7) (by decide) dX11_can_6 rfl rfl rfl ?_
  refine e_r_iload_n (pc' := 8) dX11_can_7 rfl rfl rfl ?_
  obtain ⟨r2, N1, he3, h⟩ := h
  refine e_r_callV (a := 64) (av := [.inl p1]) (st := [.inr (.inr 64)]) mqYX11_isPerson ml_RX11_325 cl_11 rfl (Nat.le_of_ble_eq_true rfl) (by simp [e_cat]) rfl rfl rfl dX11_can_8 (pc' := 11) rfl he3 ⟨Nat.le_refl _, Nat.le_refl _⟩ hmo ?_
  obtain ⟨ht4, hf5⟩ := h
  refine e_r_if_ne (tgt := 18) (pc' := 14) dX11_can_11 rfl rfl (fun c => ?_) (fun c => ?_)
  · have h := ht4 c
    refine e_r_iconst (pc' := 19) dX11_can_18 rfl (by decide) ?_
    exact h
  · have h := hf5 c
    refine e_r_iconst (pc' := 15) dX11_can_14 rfl (by decide) ?_
    refine e_r_goto (pc' := 19) dX11_can_15 rfl ?_
    exact h
theorem wp_X11_can_19 {X : e_X} {d gn : Nat} {o : e_O} (M : e_M) (p1 w0 : Int) (hmo : e_mn (557, gn, e_RF, M) o.2) (h : (∃ (r2 : Int) (N1 : e_M), e_E X d YX11_bad [.inr (.inr 64), .inl w0, .inl 1, .inl 0] (557, gn, e_RF, M) (.inl (some (.inl r2)), (557, gn, e_RF, N1)) ∧ ((r2 = 0 → (∃ (r7 : Int) (N6 : e_M), e_E X d YX11_canBuy [.inr (.inr 64), .inr (.inr 532), .inl p1] (557, gn, e_RF, N1) (.inl (some (.inl r7)), (557, gn, e_RF, N6)) ∧ ((r7 = 0 ∨ r7 = 1) ∧ o = (.inl (some (.inl r7)), (557, gn, e_RF, N6))))) ∧ (¬ (r2 = 0) → (o = (.inl (some (.inl 0)), (557, gn, e_RF, N1))))))) : e_G X (d + 1) YX11_can 19 [some (.inr (.inr 64)), some (.inl p1)] [.inl w0, .inr (.inr 64)] (557, gn, e_RF, M) o := by
  refine e_r_iconst (pc' := 20) dX11_can_19 rfl (by decide) ?_
  refine e_r_iconst (pc' := 21) dX11_can_20 rfl (by decide) ?_
  obtain ⟨r2, N1, he3, h⟩ := h
  refine e_r_callV (a := 64) (av := [.inl w0, .inl 1, .inl 0]) (st := []) mqYX11_bad ml_RX11_173 cl_11 rfl (Nat.le_of_ble_eq_true rfl) (by simp [e_cat]) rfl rfl rfl dX11_can_21 (pc' := 24) rfl he3 ⟨Nat.le_refl _, Nat.le_refl _⟩ hmo ?_
  obtain ⟨ht4, hf5⟩ := h
  refine e_r_if_eq (tgt := 29) (pc' := 27) dX11_can_24 rfl rfl (fun c => ?_) (fun c => ?_)
  · have h := ht4 c
    refine e_r_aload_n (pc' := 30) (by decide) dX11_can_29 rfl rfl rfl ?_
    refine e_r_aload_n (pc' := 31) (by decide) dX11_can_30 rfl rfl rfl ?_
    refine e_r_getr (k := 31) (q := 532) (pc' := 34) cl_11 rfl (Nat.le_of_ble_eq_true rfl) rfl rfl fl_RX11_73 rfl (Nat.le_of_ble_eq_true rfl) dX11_can_31 rfl ?_
    refine e_r_iload_n (pc' := 35) dX11_can_34 rfl rfl rfl ?_
    obtain ⟨r7, N6, he8, h⟩ := h
    refine e_r_callV (a := 64) (av := [.inr (.inr 532), .inl p1]) (st := []) mqYX11_canBuy ml_RX11_282 cl_11 rfl (Nat.le_of_ble_eq_true rfl) (by simp [e_cat]) rfl rfl rfl dX11_can_35 (pc' := 38) rfl he8 ⟨Nat.le_refl _, Nat.le_refl _⟩ hmo ?_
    exact e_r_iret (ty := .boolean) rfl (e_nZ h.1) dX11_can_38 h.2
  · have h := hf5 c
    refine e_r_iconst (pc' := 28) dX11_can_27 rfl (by decide) ?_
    exact e_r_iret (ty := .boolean) rfl (e_nZ (by decide)) dX11_can_28 h
theorem wp_X11_ahead_0 {X : e_X} {d gn : Nat} {o : e_O} (M : e_M) (p1 p2 : Int) (hmo : e_mn (557, gn, e_RF, M) o.2) (h : (∃ (r2 : Int) (N1 : e_M), e_E X d YX11_in [.inl p1, .inl 0, .inl 99] (557, gn, e_RF, (e_up M 64 0 0)) (.inl (some (.inl r2)), (557, gn, e_RF, N1)) ∧ ((r2 = 0 → e_G X (d + 1) YX11_ahead 25 [some (.inr (.inr 64)), some (.inl p1), some (.inl p2), none] [.inr (.inr 64)] (557, gn, e_RF, N1) o) ∧ (¬ (r2 = 0) → (∃ (r7 : Int) (N6 : e_M), e_E X d YX11_in [.inl p2, .inl 0, .inl 2] (557, gn, e_RF, N1) (.inl (some (.inl r7)), (557, gn, e_RF, N6)) ∧ ((¬ r7 = 0 → e_G X (d + 1) YX11_ahead 30 [some (.inr (.inr 64)), some (.inl p1), some (.inl p2), none] [.inl 0, .inr (.inr 64)] (557, gn, e_RF, N6) o) ∧ (r7 = 0 → e_G X (d + 1) YX11_ahead 25 [some (.inr (.inr 64)), some (.inl p1), some (.inl p2), none] [.inr (.inr 64)] (557, gn, e_RF, N6) o))))))) : e_G X (d + 1) YX11_ahead 0 [some (.inr (.inr 64)), some (.inl p1), some (.inl p2), none] [] (557, gn, e_RF, M) o := by
  refine e_r_aload_n (pc' := 1) (by decide) dX11_ahead_0 rfl rfl rfl ?_
  refine e_r_iconst (pc' := 2) dX11_ahead_1 rfl (by decide) ?_
  refine e_r_puti (k := 0) (pc' := 5) cl_11 rfl (Nat.le_of_ble_eq_true rfl) rfl rfl fl_RX11_97 rfl (by decide +kernel) dX11_ahead_2 rfl ?_
  refine e_r_aload_n (pc' := 6) (by decide) dX11_ahead_5 rfl rfl rfl ?_
  refine e_r_iload_n (pc' := 7) dX11_ahead_6 rfl rfl rfl ?_
  refine e_r_iconst (pc' := 8) dX11_ahead_7 rfl (by decide) ?_
  refine e_r_bipush (pc' := 10) dX11_ahead_8 rfl (by decide) ?_
  obtain ⟨r2, N1, he3, h⟩ := h
  refine e_r_callS (av := [.inl p1, .inl 0, .inl 99]) (st := [.inr (.inr 64)]) mqYX11_in ml_RX11_131 (by simp [e_cat]) rfl rfl rfl dX11_ahead_10 (pc' := 13) rfl he3 ⟨Nat.le_refl _, Nat.le_refl _⟩ hmo ?_
  obtain ⟨ht4, hf5⟩ := h
  refine e_r_if_eq (tgt := 25) (pc' := 16) dX11_ahead_13 rfl rfl (fun c => ?_) (fun c => ?_)
  · have h := ht4 c
    exact h
  · have h := hf5 c
    refine e_r_iload_n (pc' := 17) dX11_ahead_16 rfl rfl rfl ?_
    refine e_r_iconst (pc' := 18) dX11_ahead_17 rfl (by decide) ?_
    refine e_r_iconst (pc' := 19) dX11_ahead_18 rfl (by decide) ?_
    obtain ⟨r7, N6, he8, h⟩ := h
    refine e_r_callS (av := [.inl p2, .inl 0, .inl 2]) (st := [.inr (.inr 64)]) mqYX11_in ml_RX11_131 (by simp [e_cat]) rfl rfl rfl dX11_ahead_19 (pc' := 22) rfl he8 ⟨Nat.le_refl _, Nat.le_refl _⟩ hmo ?_
    obtain ⟨ht9, hf10⟩ := h
    refine e_r_if_ne (tgt := 29) (pc' := 25) dX11_ahead_22 rfl rfl (fun c => ?_) (fun c => ?_)
    · have h := ht9 c
      refine e_r_iconst (pc' := 30) dX11_ahead_29 rfl (by decide) ?_
      exact h
    · have h := hf10 c
      exact h
theorem wp_X11_ahead_30 {X : e_X} {d gn : Nat} {o : e_O} (M : e_M) (p1 p2 w0 : Int) (hmo : e_mn (557, gn, e_RF, M) o.2) (h : (∃ (r2 : Int) (N1 : e_M), e_E X d YX11_bad [.inr (.inr 64), .inl w0, .inl 1, .inl 1] (557, gn, e_RF, M) (.inl (some (.inl r2)), (557, gn, e_RF, N1)) ∧ ((r2 = 0 → (∃ N6 : e_M, e_E X d YX11_copies [.inr (.inr 532), .inr (.inr 533)] (557, gn, e_RF, N1) (.inl none, (557, gn, e_RF, N6)) ∧ e_G X (d + 1) YX11_ahead 53 [some (.inr (.inr 64)), some (.inl p1), some (.inl p2), some (.inl 0)] [] (557, gn, e_RF, N6) o)) ∧ (¬ (r2 = 0) → (o = (.inl (some (.inl 0)), (557, gn, e_RF, N1))))))) : e_G X (d + 1) YX11_ahead 30 [some (.inr (.inr 64)), some (.inl p1), some (.inl p2), none] [.inl w0, .inr (.inr 64)] (557, gn, e_RF, M) o := by
  refine e_r_iconst (pc' := 31) dX11_ahead_30 rfl (by decide) ?_
  refine e_r_iconst (pc' := 32) dX11_ahead_31 rfl (by decide) ?_
  obtain ⟨r2, N1, he3, h⟩ := h
  refine e_r_callV (a := 64) (av := [.inl w0, .inl 1, .inl 1]) (st := []) mqYX11_bad ml_RX11_173 cl_11 rfl (Nat.le_of_ble_eq_true rfl) (by simp [e_cat]) rfl rfl rfl dX11_ahead_32 (pc' := 35) rfl he3 ⟨Nat.le_refl _, Nat.le_refl _⟩ hmo ?_
  obtain ⟨ht4, hf5⟩ := h
  refine e_r_if_eq (tgt := 40) (pc' := 38) dX11_ahead_35 rfl rfl (fun c => ?_) (fun c => ?_)
  · have h := ht4 c
    refine e_r_aload_n (pc' := 41) (by decide) dX11_ahead_40 rfl rfl rfl ?_
    refine e_r_getr (k := 31) (q := 532) (pc' := 44) cl_11 rfl (Nat.le_of_ble_eq_true rfl) rfl rfl fl_RX11_73 rfl (Nat.le_of_ble_eq_true rfl) dX11_ahead_41 rfl ?_
    refine e_r_aload_n (pc' := 45) (by decide) dX11_ahead_44 rfl rfl rfl ?_
    refine e_r_getr (k := 32) (q := 533) (pc' := 48) cl_11 rfl (Nat.le_of_ble_eq_true rfl) rfl rfl fl_RX11_76 rfl (Nat.le_of_ble_eq_true rfl) dX11_ahead_45 rfl ?_
    obtain ⟨N6, he7, h⟩ := h
    refine e_r_callS (av := [.inr (.inr 532), .inr (.inr 533)]) (st := []) mqYX11_copies ml_RX11_315 (by simp [e_cat]) rfl rfl rfl dX11_ahead_48 (pc' := 51) rfl he7 ⟨Nat.le_refl _, Nat.le_refl _⟩ hmo ?_
    refine e_r_iconst (pc' := 52) dX11_ahead_51 rfl (by decide) ?_
    refine e_r_istore_n (pc' := 53) (loc' := [some (.inr (.inr 64)), some (.inl p1), some (.inl p2), some (.inl 0)]) dX11_ahead_52 rfl rfl rfl rfl rfl ?_
    exact h
  · have h := hf5 c
    refine e_r_iconst (pc' := 39) dX11_ahead_38 rfl (by decide) ?_
    exact e_r_iret (ty := .int) rfl (e_nI _) dX11_ahead_39 h
theorem wp_X11_ahead_53 {X : e_X} {d gn : Nat} {o : e_O} (M : e_M) (p1 p2 v3 : Int) (hmo : e_mn (557, gn, e_RF, M) o.2) (h : ((p1 ≤ v3 → ((¬ p2 = 0 → ((¬ p2 = 1 → (∃ (r8 : Int) (N7 : e_M), e_E X d YX11_doneIn [.inr (.inr 64), .inr (.inr 533)] (557, gn, e_RF, M) (.inl (some (.inl r8)), (557, gn, e_RF, N7)) ∧ (o = (.inl (some (.inl r8)), (557, gn, e_RF, N7))))) ∧ (p2 = 1 → (∃ (r11 : Int) (N10 : e_M), e_E X d YX11_sumOf [.inr (.inr 64), .inr (.inr 533), .inl 6] (557, gn, e_RF, M) (.inl (some (.inl r11)), (557, gn, e_RF, N10)) ∧ (o = (.inl (some (.inl r11)), (557, gn, e_RF, N10))))))) ∧ (p2 = 0 → (∃ (r14 : Int) (N13 : e_M), e_E X d YX11_sumOf [.inr (.inr 64), .inr (.inr 533), .inl 0] (557, gn, e_RF, M) (.inl (some (.inl r14)), (557, gn, e_RF, N13)) ∧ (o = (.inl (some (.inl r14)), (557, gn, e_RF, N13))))))) ∧ (¬ (p1 ≤ v3) → (∃ N16 : e_M, e_E X d YX11_weekEnds [.inr (.inr 64), .inr (.inr 533)] (557, gn, e_RF, M) (.inl none, (557, gn, e_RF, N16)) ∧ e_G X (d + 1) YX11_ahead 53 [some (.inr (.inr 64)), some (.inl p1), some (.inl p2), some (.inl (e_w (v3 + 1)))] [] (557, gn, e_RF, N16) o)))) : e_G X (d + 1) YX11_ahead 53 [some (.inr (.inr 64)), some (.inl p1), some (.inl p2), some (.inl v3)] [] (557, gn, e_RF, M) o := by
  refine e_r_iload_n (pc' := 54) dX11_ahead_53 rfl rfl rfl ?_
  refine e_r_iload_n (pc' := 55) dX11_ahead_54 rfl rfl rfl ?_
  obtain ⟨ht1, hf2⟩ := h
  refine e_r_icmp_ge (tgt := 72) (pc' := 58) dX11_ahead_55 rfl rfl (fun c => ?_) (fun c => ?_)
  · have h := ht1 c
    refine e_r_iload_n (pc' := 73) dX11_ahead_72 rfl rfl rfl ?_
    obtain ⟨ht3, hf4⟩ := h
    refine e_r_if_ne (tgt := 88) (pc' := 76) dX11_ahead_73 rfl rfl (fun c => ?_) (fun c => ?_)
    · have h := ht3 c
      refine e_r_iload_n (pc' := 89) dX11_ahead_88 rfl rfl rfl ?_
      refine e_r_iconst (pc' := 90) dX11_ahead_89 rfl (by decide) ?_
      obtain ⟨ht5, hf6⟩ := h
      refine e_r_icmp_ne (tgt := 106) (pc' := 93) dX11_ahead_90 rfl rfl (fun c => ?_) (fun c => ?_)
      · have h := ht5 c
        refine e_r_aload_n (pc' := 107) (by decide) dX11_ahead_106 rfl rfl rfl ?_
        refine e_r_aload_n (pc' := 108) (by decide) dX11_ahead_107 rfl rfl rfl ?_
        refine e_r_getr (k := 32) (q := 533) (pc' := 111) cl_11 rfl (Nat.le_of_ble_eq_true rfl) rfl rfl fl_RX11_76 rfl (Nat.le_of_ble_eq_true rfl) dX11_ahead_108 rfl ?_
        obtain ⟨r8, N7, he9, h⟩ := h
        refine e_r_callV (a := 64) (av := [.inr (.inr 533)]) (st := []) mqYX11_doneIn ml_RX11_319 cl_11 rfl (Nat.le_of_ble_eq_true rfl) (by simp [e_cat]) rfl rfl rfl dX11_ahead_111 (pc' := 114) rfl he9 ⟨Nat.le_refl _, Nat.le_refl _⟩ hmo ?_
        exact e_r_iret (ty := .int) rfl (e_nI _) dX11_ahead_114 h
      · have h := hf6 c
        refine e_r_aload_n (pc' := 94) (by decide) dX11_ahead_93 rfl rfl rfl ?_
        refine e_r_aload_n (pc' := 95) (by decide) dX11_ahead_94 rfl rfl rfl ?_
        refine e_r_getr (k := 32) (q := 533) (pc' := 98) cl_11 rfl (Nat.le_of_ble_eq_true rfl) rfl rfl fl_RX11_76 rfl (Nat.le_of_ble_eq_true rfl) dX11_ahead_95 rfl ?_
        refine e_r_bipush (pc' := 100) dX11_ahead_98 rfl (by decide) ?_
        obtain ⟨r11, N10, he12, h⟩ := h
        refine e_r_callV (a := 64) (av := [.inr (.inr 533), .inl 6]) (st := []) mqYX11_sumOf ml_RX11_322 cl_11 rfl (Nat.le_of_ble_eq_true rfl) (by simp [e_cat]) rfl rfl rfl dX11_ahead_100 (pc' := 103) rfl he12 ⟨Nat.le_refl _, Nat.le_refl _⟩ hmo ?_
        refine e_r_goto (pc' := 114) dX11_ahead_103 rfl ?_
        exact e_r_iret (ty := .int) rfl (e_nI _) dX11_ahead_114 h
    · have h := hf4 c
      refine e_r_aload_n (pc' := 77) (by decide) dX11_ahead_76 rfl rfl rfl ?_
      refine e_r_aload_n (pc' := 78) (by decide) dX11_ahead_77 rfl rfl rfl ?_
      refine e_r_getr (k := 32) (q := 533) (pc' := 81) cl_11 rfl (Nat.le_of_ble_eq_true rfl) rfl rfl fl_RX11_76 rfl (Nat.le_of_ble_eq_true rfl) dX11_ahead_78 rfl ?_
      refine e_r_iconst (pc' := 82) dX11_ahead_81 rfl (by decide) ?_
      obtain ⟨r14, N13, he15, h⟩ := h
      refine e_r_callV (a := 64) (av := [.inr (.inr 533), .inl 0]) (st := []) mqYX11_sumOf ml_RX11_322 cl_11 rfl (Nat.le_of_ble_eq_true rfl) (by simp [e_cat]) rfl rfl rfl dX11_ahead_82 (pc' := 85) rfl he15 ⟨Nat.le_refl _, Nat.le_refl _⟩ hmo ?_
      refine e_r_goto (pc' := 114) dX11_ahead_85 rfl ?_
      exact e_r_iret (ty := .int) rfl (e_nI _) dX11_ahead_114 h
  · have h := hf2 c
    refine e_r_aload_n (pc' := 59) (by decide) dX11_ahead_58 rfl rfl rfl ?_
    refine e_r_aload_n (pc' := 60) (by decide) dX11_ahead_59 rfl rfl rfl ?_
    refine e_r_getr (k := 32) (q := 533) (pc' := 63) cl_11 rfl (Nat.le_of_ble_eq_true rfl) rfl rfl fl_RX11_76 rfl (Nat.le_of_ble_eq_true rfl) dX11_ahead_60 rfl ?_
    obtain ⟨N16, he17, h⟩ := h
    refine e_r_callV (a := 64) (av := [.inr (.inr 533)]) (st := []) mqYX11_weekEnds ml_RX11_298 cl_11 rfl (Nat.le_of_ble_eq_true rfl) (by simp [e_cat]) rfl rfl rfl dX11_ahead_63 (pc' := 66) rfl he17 ⟨Nat.le_refl _, Nat.le_refl _⟩ hmo ?_
    refine e_r_iinc (pc' := 69) (loc' := [some (.inr (.inr 64)), some (.inl p1), some (.inl p2), some (.inl (e_w (v3 + 1)))]) dX11_ahead_66 rfl rfl rfl rfl rfl ?_
    refine e_r_goto (pc' := 53) dX11_ahead_69 rfl ?_
    exact h
theorem wp_X11_ahead_25 {X : e_X} {d gn : Nat} {o : e_O} (M : e_M) (p1 p2 : Int) (h : e_G X (d + 1) YX11_ahead 30 [some (.inr (.inr 64)), some (.inl p1), some (.inl p2), none] [.inl 1, .inr (.inr 64)] (557, gn, e_RF, M) o) : e_G X (d + 1) YX11_ahead 25 [some (.inr (.inr 64)), some (.inl p1), some (.inl p2), none] [.inr (.inr 64)] (557, gn, e_RF, M) o := by
  refine e_r_iconst (pc' := 26) dX11_ahead_25 rfl (by decide) ?_
  refine e_r_goto (pc' := 30) dX11_ahead_26 rfl ?_
  exact h
theorem wp_X11_left_0 {X : e_X} {d gn : Nat} {o : e_O} (M : e_M) (hmo : e_mn (557, gn, e_RF, M) o.2) (h : (∃ (r2 : Int) (N1 : e_M), e_E X d YX11_leftIn [.inr (.inr 64), .inr (.inr 532)] (557, gn, e_RF, (e_up M 64 0 0)) (.inl (some (.inl r2)), (557, gn, e_RF, N1)) ∧ (o = (.inl (some (.inl r2)), (557, gn, e_RF, N1))))) : e_G X (d + 1) YX11_left 0 [some (.inr (.inr 64))] [] (557, gn, e_RF, M) o := by
  refine e_r_aload_n (pc' := 1) (by decide) dX11_left_0 rfl rfl rfl ?_
  refine e_r_iconst (pc' := 2) dX11_left_1 rfl (by decide) ?_
  refine e_r_puti (k := 0) (pc' := 5) cl_11 rfl (Nat.le_of_ble_eq_true rfl) rfl rfl fl_RX11_97 rfl (by decide +kernel) dX11_left_2 rfl ?_
  refine e_r_aload_n (pc' := 6) (by decide) dX11_left_5 rfl rfl rfl ?_
  refine e_r_aload_n (pc' := 7) (by decide) dX11_left_6 rfl rfl rfl ?_
  refine e_r_getr (k := 31) (q := 532) (pc' := 10) cl_11 rfl (Nat.le_of_ble_eq_true rfl) rfl rfl fl_RX11_73 rfl (Nat.le_of_ble_eq_true rfl) dX11_left_7 rfl ?_
  obtain ⟨r2, N1, he3, h⟩ := h
  refine e_r_callV (a := 64) (av := [.inr (.inr 532)]) (st := []) mqYX11_leftIn ml_RX11_285 cl_11 rfl (Nat.le_of_ble_eq_true rfl) (by simp [e_cat]) rfl rfl rfl dX11_left_10 (pc' := 13) rfl he3 ⟨Nat.le_refl _, Nat.le_refl _⟩ hmo ?_
  exact e_r_iret (ty := .int) rfl (e_nI _) dX11_left_13 h
theorem wp_X11_stay_0 {X : e_X} {d gn : Nat} {o : e_O} (M : e_M) (p1 : Int) (hmo : e_mn (557, gn, e_RF, M) o.2) (h : (∃ (r2 : Int) (N1 : e_M), e_E X d YX11_in [.inl p1, .inl 0, .inl (e_w ((e_shl 1 ((e_up M 64 0 0) 68 1)) - 1))] (557, gn, e_RF, (e_up M 64 0 0)) (.inl (some (.inl r2)), (557, gn, e_RF, N1)) ∧ ((¬ r2 = 0 → e_G X (d + 1) YX11_stay 29 [some (.inr (.inr 64)), some (.inl p1), none, none, none, none] [.inl 0, .inr (.inr 64)] (557, gn, e_RF, N1) o) ∧ (r2 = 0 → e_G X (d + 1) YX11_stay 29 [some (.inr (.inr 64)), some (.inl p1), none, none, none, none] [.inl 1, .inr (.inr 64)] (557, gn, e_RF, N1) o)))) : e_G X (d + 1) YX11_stay 0 [some (.inr (.inr 64)), some (.inl p1), none, none, none, none] [] (557, gn, e_RF, M) o := by
  refine e_r_aload_n (pc' := 1) (by decide) dX11_stay_0 rfl rfl rfl ?_
  refine e_r_iconst (pc' := 2) dX11_stay_1 rfl (by decide) ?_
  refine e_r_puti (k := 0) (pc' := 5) cl_11 rfl (Nat.le_of_ble_eq_true rfl) rfl rfl fl_RX11_97 rfl (by decide +kernel) dX11_stay_2 rfl ?_
  refine e_r_aload_n (pc' := 6) (by decide) dX11_stay_5 rfl rfl rfl ?_
  refine e_r_iload_n (pc' := 7) dX11_stay_6 rfl rfl rfl ?_
  refine e_r_iconst (pc' := 8) dX11_stay_7 rfl (by decide) ?_
  refine e_r_iconst (pc' := 9) dX11_stay_8 rfl (by decide) ?_
  refine e_r_aload_n (pc' := 10) (by decide) dX11_stay_9 rfl rfl rfl ?_
  refine e_r_getr (k := 12) (q := 68) (pc' := 13) cl_11 rfl (Nat.le_of_ble_eq_true rfl) rfl rfl fl_RX11_23 rfl (Nat.le_of_ble_eq_true rfl) dX11_stay_10 rfl ?_
  refine e_r_iconst (pc' := 14) dX11_stay_13 rfl (by decide) ?_
  refine e_r_iald (j9 := 1) (pc' := 15) rfl (Nat.le_of_ble_eq_true rfl) (by decide) (by decide) rfl dX11_stay_14 rfl ?_
  refine e_r_ishl (pc' := 16) dX11_stay_15 rfl ?_
  refine e_r_iconst (pc' := 17) dX11_stay_16 rfl (by decide) ?_
  refine e_r_isub (pc' := 18) dX11_stay_17 rfl ?_
  obtain ⟨r2, N1, he3, h⟩ := h
  refine e_r_callS (av := [.inl p1, .inl 0, .inl (e_w ((e_shl 1 ((e_up M 64 0 0) 68 1)) - 1))]) (st := [.inr (.inr 64)]) mqYX11_in ml_RX11_131 (by simp [e_cat]) rfl rfl rfl dX11_stay_18 (pc' := 21) rfl he3 ⟨Nat.le_refl _, Nat.le_refl _⟩ hmo ?_
  obtain ⟨ht4, hf5⟩ := h
  refine e_r_if_ne (tgt := 28) (pc' := 24) dX11_stay_21 rfl rfl (fun c => ?_) (fun c => ?_)
  · have h := ht4 c
    refine e_r_iconst (pc' := 29) dX11_stay_28 rfl (by decide) ?_
    exact h
  · have h := hf5 c
    refine e_r_iconst (pc' := 25) dX11_stay_24 rfl (by decide) ?_
    refine e_r_goto (pc' := 29) dX11_stay_25 rfl ?_
    exact h
theorem wp_X11_stay_29 {X : e_X} {d gn : Nat} {o : e_O} (M : e_M) (p1 w0 : Int) (hmo : e_mn (557, gn, e_RF, M) o.2) (h : (∃ (r2 : Int) (N1 : e_M), e_E X d YX11_bad [.inr (.inr 64), .inl w0, .inl 1, .inl 1] (557, gn, e_RF, M) (.inl (some (.inl r2)), (557, gn, e_RF, N1)) ∧ ((r2 = 0 → e_G X (d + 1) YX11_stay 52 [some (.inr (.inr 64)), some (.inl p1), some (.inl (-1)), some (.inl (e_w ((e_shl 1 (N1 68 0)) - 1))), none, none] [] (557, gn, e_RF, N1) o) ∧ (¬ (r2 = 0) → (o = (.inl (some (.inl 0)), (557, gn, e_RF, N1))))))) : e_G X (d + 1) YX11_stay 29 [some (.inr (.inr 64)), some (.inl p1), none, none, none, none] [.inl w0, .inr (.inr 64)] (557, gn, e_RF, M) o := by
  refine e_r_iconst (pc' := 30) dX11_stay_29 rfl (by decide) ?_
  refine e_r_iconst (pc' := 31) dX11_stay_30 rfl (by decide) ?_
  obtain ⟨r2, N1, he3, h⟩ := h
  refine e_r_callV (a := 64) (av := [.inl w0, .inl 1, .inl 1]) (st := []) mqYX11_bad ml_RX11_173 cl_11 rfl (Nat.le_of_ble_eq_true rfl) (by simp [e_cat]) rfl rfl rfl dX11_stay_31 (pc' := 34) rfl he3 ⟨Nat.le_refl _, Nat.le_refl _⟩ hmo ?_
  obtain ⟨ht4, hf5⟩ := h
  refine e_r_if_eq (tgt := 39) (pc' := 37) dX11_stay_34 rfl rfl (fun c => ?_) (fun c => ?_)
  · have h := ht4 c
    refine e_r_iconst (pc' := 40) dX11_stay_39 rfl (by decide) ?_
    refine e_r_istore_n (pc' := 41) (loc' := [some (.inr (.inr 64)), some (.inl p1), some (.inl (-1)), none, none, none]) dX11_stay_40 rfl rfl rfl rfl rfl ?_
    refine e_r_iconst (pc' := 42) dX11_stay_41 rfl (by decide) ?_
    refine e_r_aload_n (pc' := 43) (by decide) dX11_stay_42 rfl rfl rfl ?_
    refine e_r_getr (k := 12) (q := 68) (pc' := 46) cl_11 rfl (Nat.le_of_ble_eq_true rfl) rfl rfl fl_RX11_23 rfl (Nat.le_of_ble_eq_true rfl) dX11_stay_43 rfl ?_
    refine e_r_iconst (pc' := 47) dX11_stay_46 rfl (by decide) ?_
    refine e_r_iald (j9 := 0) (pc' := 48) rfl (Nat.le_of_ble_eq_true rfl) (by decide) (by decide) rfl dX11_stay_47 rfl ?_
    refine e_r_ishl (pc' := 49) dX11_stay_48 rfl ?_
    refine e_r_iconst (pc' := 50) dX11_stay_49 rfl (by decide) ?_
    refine e_r_isub (pc' := 51) dX11_stay_50 rfl ?_
    refine e_r_istore_n (pc' := 52) (loc' := [some (.inr (.inr 64)), some (.inl p1), some (.inl (-1)), some (.inl (e_w ((e_shl 1 (N1 68 0)) - 1))), none, none]) dX11_stay_51 rfl rfl rfl rfl rfl ?_
    exact h
  · have h := hf5 c
    refine e_r_iconst (pc' := 38) dX11_stay_37 rfl (by decide) ?_
    exact e_r_iret (ty := .int) rfl (e_nI _) dX11_stay_38 h
theorem wp_X11_stay_52 {X : e_X} {d gn : Nat} {o : e_O} (M : e_M) (p1 v2 v3 : Int) (h : ((v3 < 0 → (o = (.inl (some (.inl v2)), (557, gn, e_RF, M)))) ∧ (¬ (v3 < 0) → e_G X (d + 1) YX11_stay 62 [some (.inr (.inr 64)), some (.inl p1), some (.inl v2), some (.inl v3), some (.inl 0), some (.inl 0)] [] (557, gn, e_RF, M) o))) : e_G X (d + 1) YX11_stay 52 [some (.inr (.inr 64)), some (.inl p1), some (.inl v2), some (.inl v3), none, none] [] (557, gn, e_RF, M) o := by
  refine e_r_iload_n (pc' := 53) dX11_stay_52 rfl rfl rfl ?_
  obtain ⟨ht1, hf2⟩ := h
  refine e_r_if_lt (tgt := 141) (pc' := 56) dX11_stay_53 rfl rfl (fun c => ?_) (fun c => ?_)
  · have h := ht1 c
    refine e_r_iload_n (pc' := 142) dX11_stay_141 rfl rfl rfl ?_
    exact e_r_iret (ty := .int) rfl (e_nI _) dX11_stay_142 h
  · have h := hf2 c
    refine e_r_iconst (pc' := 57) dX11_stay_56 rfl (by decide) ?_
    refine e_r_istore (pc' := 59) (loc' := [some (.inr (.inr 64)), some (.inl p1), some (.inl v2), some (.inl v3), some (.inl 0), none]) dX11_stay_57 rfl rfl rfl rfl ?_
    refine e_r_iconst (pc' := 60) dX11_stay_59 rfl (by decide) ?_
    refine e_r_istore (pc' := 62) (loc' := [some (.inr (.inr 64)), some (.inl p1), some (.inl v2), some (.inl v3), some (.inl 0), some (.inl 0)]) dX11_stay_60 rfl rfl rfl rfl ?_
    exact h
theorem wp_X11_stay_62 {X : e_X} {d gn : Nat} {o : e_O} (M : e_M) (p1 v2 v3 v4 v5 : Int) (hmo : e_mn (557, gn, e_RF, M) o.2) (h : (((M 68 0) ≤ v5 → ((¬ (e_and p1 (e_xor v4 (-1))) = 0 → e_G X (d + 1) YX11_stay 52 [some (.inr (.inr 64)), some (.inl p1), some (.inl v2), some (.inl (e_w (v3 + (-1)))), none, none] [] (557, gn, e_RF, M) o) ∧ ((e_and p1 (e_xor v4 (-1))) = 0 → ((v2 = (-1) → e_G X (d + 1) YX11_stay 52 [some (.inr (.inr 64)), some (.inl p1), some (.inl v3), some (.inl (e_w (v3 + (-1)))), none, none] [] (557, gn, e_RF, M) o) ∧ (¬ (v2 = (-1)) → (∃ (r8 : Int) (N7 : e_M), e_E X d YX11_ones [.inl v3] (557, gn, e_RF, M) (.inl (some (.inl r8)), (557, gn, e_RF, N7)) ∧ (∃ (r11 : Int) (N10 : e_M), e_E X d YX11_ones [.inl v2] (557, gn, e_RF, N7) (.inl (some (.inl r11)), (557, gn, e_RF, N10)) ∧ ((r11 < r8 → e_G X (d + 1) YX11_stay 52 [some (.inr (.inr 64)), some (.inl p1), some (.inl v2), some (.inl (e_w (v3 + (-1)))), none, none] [] (557, gn, e_RF, N10) o) ∧ (¬ (r11 < r8) → e_G X (d + 1) YX11_stay 52 [some (.inr (.inr 64)), some (.inl p1), some (.inl v3), some (.inl (e_w (v3 + (-1)))), none, none] [] (557, gn, e_RF, N10) o))))))))) ∧ (¬ ((M 68 0) ≤ v5) → (∃ (r16 : Int) (N15 : e_M), e_E X d YX11_has [.inl v3, .inl v5] (557, gn, e_RF, M) (.inl (some (.inl r16)), (557, gn, e_RF, N15)) ∧ ((r16 = 0 → e_G X (d + 1) YX11_stay 62 [some (.inr (.inr 64)), some (.inl p1), some (.inl v2), some (.inl v3), some (.inl (e_or v4 0)), some (.inl (e_w (v5 + 1)))] [] (557, gn, e_RF, N15) o) ∧ (¬ (r16 = 0) → ((0 ≤ v5 ∧ v5 < 6) ∧ e_G X (d + 1) YX11_stay 62 [some (.inr (.inr 64)), some (.inl p1), some (.inl v2), some (.inl v3), some (.inl (e_or v4 (N15 72 v5.toNat))), some (.inl (e_w (v5 + 1)))] [] (557, gn, e_RF, N15) o))))))) : e_G X (d + 1) YX11_stay 62 [some (.inr (.inr 64)), some (.inl p1), some (.inl v2), some (.inl v3), some (.inl v4), some (.inl v5)] [] (557, gn, e_RF, M) o := by
  refine e_r_iload (pc' := 64) dX11_stay_62 rfl rfl ?_
  refine e_r_aload_n (pc' := 65) (by decide) dX11_stay_64 rfl rfl rfl ?_
  refine e_r_getr (k := 12) (q := 68) (pc' := 68) cl_11 rfl (Nat.le_of_ble_eq_true rfl) rfl rfl fl_RX11_23 rfl (Nat.le_of_ble_eq_true rfl) dX11_stay_65 rfl ?_
  refine e_r_iconst (pc' := 69) dX11_stay_68 rfl (by decide) ?_
  refine e_r_iald (j9 := 0) (pc' := 70) rfl (Nat.le_of_ble_eq_true rfl) (by decide) (by decide) rfl dX11_stay_69 rfl ?_
  obtain ⟨ht1, hf2⟩ := h
  refine e_r_icmp_ge (tgt := 104) (pc' := 73) dX11_stay_70 rfl rfl (fun c => ?_) (fun c => ?_)
  · have h := ht1 c
    refine e_r_iload_n (pc' := 105) dX11_stay_104 rfl rfl rfl ?_
    refine e_r_iload (pc' := 107) dX11_stay_105 rfl rfl ?_
    refine e_r_iconst (pc' := 108) dX11_stay_107 rfl (by decide) ?_
    refine e_r_ixor (pc' := 109) dX11_stay_108 rfl ?_
    refine e_r_iand (pc' := 110) dX11_stay_109 rfl ?_
    obtain ⟨ht3, hf4⟩ := h
    refine e_r_if_ne (tgt := 133) (pc' := 113) dX11_stay_110 rfl rfl (fun c => ?_) (fun c => ?_)
    · have h := ht3 c
      refine e_r_iload_n (pc' := 134) dX11_stay_133 rfl rfl rfl ?_
      refine e_r_istore_n (pc' := 135) (loc' := [some (.inr (.inr 64)), some (.inl p1), some (.inl v2), some (.inl v3), some (.inl v4), some (.inl v5)]) dX11_stay_134 rfl rfl rfl rfl rfl ?_
      refine e_r_iinc (pc' := 138) (loc' := [some (.inr (.inr 64)), some (.inl p1), some (.inl v2), some (.inl (e_w (v3 + (-1)))), some (.inl v4), some (.inl v5)]) dX11_stay_135 rfl rfl rfl rfl rfl ?_
      refine e_r_goto (pc' := 52) dX11_stay_138 rfl ?_
      exact e_forget (m := [true, true, true, true, false, false]) h rfl
    · have h := hf4 c
      refine e_r_iload_n (pc' := 114) dX11_stay_113 rfl rfl rfl ?_
      refine e_r_iconst (pc' := 115) dX11_stay_114 rfl (by decide) ?_
      obtain ⟨ht5, hf6⟩ := h
      refine e_r_icmp_eq (tgt := 129) (pc' := 118) dX11_stay_115 rfl rfl (fun c => ?_) (fun c => ?_)
      · have h := ht5 c
        refine e_r_iload_n (pc' := 130) dX11_stay_129 rfl rfl rfl ?_
        refine e_r_goto (pc' := 134) dX11_stay_130 rfl ?_
        refine e_r_istore_n (pc' := 135) (loc' := [some (.inr (.inr 64)), some (.inl p1), some (.inl v3), some (.inl v3), some (.inl v4), some (.inl v5)]) dX11_stay_134 rfl rfl rfl rfl rfl ?_
        refine e_r_iinc (pc' := 138) (loc' := [some (.inr (.inr 64)), some (.inl p1), some (.inl v3), some (.inl (e_w (v3 + (-1)))), some (.inl v4), some (.inl v5)]) dX11_stay_135 rfl rfl rfl rfl rfl ?_
        refine e_r_goto (pc' := 52) dX11_stay_138 rfl ?_
        exact e_forget (m := [true, true, true, true, false, false]) h rfl
      · have h := hf6 c
        refine e_r_iload_n (pc' := 119) dX11_stay_118 rfl rfl rfl ?_
        obtain ⟨r8, N7, he9, h⟩ := h
        refine e_r_callS (av := [.inl v3]) (st := []) mqYX11_ones ml_RX11_272 (by simp [e_cat]) rfl rfl rfl dX11_stay_119 (pc' := 122) rfl he9 ⟨Nat.le_refl _, Nat.le_refl _⟩ hmo ?_
        refine e_r_iload_n (pc' := 123) dX11_stay_122 rfl rfl rfl ?_
        obtain ⟨r11, N10, he12, h⟩ := h
        refine e_r_callS (av := [.inl v2]) (st := [.inl r8]) mqYX11_ones ml_RX11_272 (by simp [e_cat]) rfl rfl rfl dX11_stay_123 (pc' := 126) rfl he12 ⟨Nat.le_refl _, Nat.le_refl _⟩ hmo ?_
        obtain ⟨ht13, hf14⟩ := h
        refine e_r_icmp_gt (tgt := 133) (pc' := 129) dX11_stay_126 rfl rfl (fun c => ?_) (fun c => ?_)
        · have h := ht13 c
          refine e_r_iload_n (pc' := 134) dX11_stay_133 rfl rfl rfl ?_
          refine e_r_istore_n (pc' := 135) (loc' := [some (.inr (.inr 64)), some (.inl p1), some (.inl v2), some (.inl v3), some (.inl v4), some (.inl v5)]) dX11_stay_134 rfl rfl rfl rfl rfl ?_
          refine e_r_iinc (pc' := 138) (loc' := [some (.inr (.inr 64)), some (.inl p1), some (.inl v2), some (.inl (e_w (v3 + (-1)))), some (.inl v4), some (.inl v5)]) dX11_stay_135 rfl rfl rfl rfl rfl ?_
          refine e_r_goto (pc' := 52) dX11_stay_138 rfl ?_
          exact e_forget (m := [true, true, true, true, false, false]) h rfl
        · have h := hf14 c
          refine e_r_iload_n (pc' := 130) dX11_stay_129 rfl rfl rfl ?_
          refine e_r_goto (pc' := 134) dX11_stay_130 rfl ?_
          refine e_r_istore_n (pc' := 135) (loc' := [some (.inr (.inr 64)), some (.inl p1), some (.inl v3), some (.inl v3), some (.inl v4), some (.inl v5)]) dX11_stay_134 rfl rfl rfl rfl rfl ?_
          refine e_r_iinc (pc' := 138) (loc' := [some (.inr (.inr 64)), some (.inl p1), some (.inl v3), some (.inl (e_w (v3 + (-1)))), some (.inl v4), some (.inl v5)]) dX11_stay_135 rfl rfl rfl rfl rfl ?_
          refine e_r_goto (pc' := 52) dX11_stay_138 rfl ?_
          exact e_forget (m := [true, true, true, true, false, false]) h rfl
  · have h := hf2 c
    refine e_r_iload (pc' := 75) dX11_stay_73 rfl rfl ?_
    refine e_r_iload_n (pc' := 76) dX11_stay_75 rfl rfl rfl ?_
    refine e_r_iload (pc' := 78) dX11_stay_76 rfl rfl ?_
    obtain ⟨r16, N15, he17, h⟩ := h
    refine e_r_callS (av := [.inl v3, .inl v5]) (st := [.inl v4]) mqYX11_has ml_RX11_255 (by simp [e_cat]) rfl rfl rfl dX11_stay_78 (pc' := 81) rfl he17 ⟨Nat.le_refl _, Nat.le_refl _⟩ hmo ?_
    obtain ⟨ht18, hf19⟩ := h
    refine e_r_if_eq (tgt := 94) (pc' := 84) dX11_stay_81 rfl rfl (fun c => ?_) (fun c => ?_)
    · have h := ht18 c
      refine e_r_iconst (pc' := 95) dX11_stay_94 rfl (by decide) ?_
      refine e_r_ior (pc' := 96) dX11_stay_95 rfl ?_
      refine e_r_istore (pc' := 98) (loc' := [some (.inr (.inr 64)), some (.inl p1), some (.inl v2), some (.inl v3), some (.inl (e_or v4 0)), some (.inl v5)]) dX11_stay_96 rfl rfl rfl rfl ?_
      refine e_r_iinc (pc' := 101) (loc' := [some (.inr (.inr 64)), some (.inl p1), some (.inl v2), some (.inl v3), some (.inl (e_or v4 0)), some (.inl (e_w (v5 + 1)))]) dX11_stay_98 rfl rfl rfl rfl rfl ?_
      refine e_r_goto (pc' := 62) dX11_stay_101 rfl ?_
      exact h
    · have h := hf19 c
      refine e_r_aload_n (pc' := 85) (by decide) dX11_stay_84 rfl rfl rfl ?_
      refine e_r_getr (k := 16) (q := 72) (pc' := 88) cl_11 rfl (Nat.le_of_ble_eq_true rfl) rfl rfl fl_RX11_35 rfl (Nat.le_of_ble_eq_true rfl) dX11_stay_85 rfl ?_
      refine e_r_iload (pc' := 90) dX11_stay_88 rfl rfl ?_
      obtain ⟨hb20, h⟩ := h
      refine e_r_iald (j9 := v5.toNat) (pc' := 91) rfl (Nat.le_of_ble_eq_true rfl) hb20.1 hb20.2 rfl dX11_stay_90 rfl ?_
      refine e_r_goto (pc' := 95) dX11_stay_91 rfl ?_
      refine e_r_ior (pc' := 96) dX11_stay_95 rfl ?_
      refine e_r_istore (pc' := 98) (loc' := [some (.inr (.inr 64)), some (.inl p1), some (.inl v2), some (.inl v3), some (.inl (e_or v4 (N15 72 v5.toNat))), some (.inl v5)]) dX11_stay_96 rfl rfl rfl rfl ?_
      refine e_r_iinc (pc' := 101) (loc' := [some (.inr (.inr 64)), some (.inl p1), some (.inl v2), some (.inl v3), some (.inl (e_or v4 (N15 72 v5.toNat))), some (.inl (e_w (v5 + 1)))]) dX11_stay_98 rfl rfl rfl rfl rfl ?_
      refine e_r_goto (pc' := 62) dX11_stay_101 rfl ?_
      exact h
theorem wp_X11_givesFrom_0 {X : e_X} {d gn : Nat} {o : e_O} (M : e_M) (p1 p2 p3 : Int) (h : ((¬ p1 = (M 68 1) → e_G X (d + 1) YX11_givesFrom 57 [some (.inr (.inr 64)), some (.inl p1), some (.inl p2), some (.inl p3), some (.inl 0)] [] (557, gn, e_RF, M) o) ∧ (p1 = (M 68 1) → (((M 64 44) < p3 → e_G X (d + 1) YX11_givesFrom 27 [some (.inr (.inr 64)), some (.inl p1), some (.inl p2), some (.inl p3), some (.inl 0)] [] (557, gn, e_RF, (e_up M 64 44 p3)) o) ∧ (¬ ((M 64 44) < p3) → (o = (.inl none, (557, gn, e_RF, M)))))))) : e_G X (d + 1) YX11_givesFrom 0 [some (.inr (.inr 64)), some (.inl p1), some (.inl p2), some (.inl p3), none] [] (557, gn, e_RF, M) o := by
  refine e_r_iload_n (pc' := 1) dX11_givesFrom_0 rfl rfl rfl ?_
  refine e_r_aload_n (pc' := 2) (by decide) dX11_givesFrom_1 rfl rfl rfl ?_
  refine e_r_getr (k := 12) (q := 68) (pc' := 5) cl_11 rfl (Nat.le_of_ble_eq_true rfl) rfl rfl fl_RX11_23 rfl (Nat.le_of_ble_eq_true rfl) dX11_givesFrom_2 rfl ?_
  refine e_r_iconst (pc' := 6) dX11_givesFrom_5 rfl (by decide) ?_
  refine e_r_iald (j9 := 1) (pc' := 7) rfl (Nat.le_of_ble_eq_true rfl) (by decide) (by decide) rfl dX11_givesFrom_6 rfl ?_
  obtain ⟨ht1, hf2⟩ := h
  refine e_r_icmp_ne (tgt := 54) (pc' := 10) dX11_givesFrom_7 rfl rfl (fun c => ?_) (fun c => ?_)
  · have h := ht1 c
    refine e_r_iconst (pc' := 55) dX11_givesFrom_54 rfl (by decide) ?_
    refine e_r_istore (pc' := 57) (loc' := [some (.inr (.inr 64)), some (.inl p1), some (.inl p2), some (.inl p3), some (.inl 0)]) dX11_givesFrom_55 rfl rfl rfl rfl ?_
    exact h
  · have h := hf2 c
    refine e_r_iload_n (pc' := 11) dX11_givesFrom_10 rfl rfl rfl ?_
    refine e_r_aload_n (pc' := 12) (by decide) dX11_givesFrom_11 rfl rfl rfl ?_
    refine e_r_geti (k := 44) (pc' := 15) cl_11 rfl (Nat.le_of_ble_eq_true rfl) rfl rfl fl_RX11_328 dX11_givesFrom_12 rfl ?_
    obtain ⟨ht3, hf4⟩ := h
    refine e_r_icmp_gt (tgt := 19) (pc' := 18) dX11_givesFrom_15 rfl rfl (fun c => ?_) (fun c => ?_)
    · have h := ht3 c
      refine e_r_aload_n (pc' := 20) (by decide) dX11_givesFrom_19 rfl rfl rfl ?_
      refine e_r_iload_n (pc' := 21) dX11_givesFrom_20 rfl rfl rfl ?_
      refine e_r_puti (k := 44) (pc' := 24) cl_11 rfl (Nat.le_of_ble_eq_true rfl) rfl rfl fl_RX11_328 rfl (by decide +kernel) dX11_givesFrom_21 rfl ?_
      refine e_r_iconst (pc' := 25) dX11_givesFrom_24 rfl (by decide) ?_
      refine e_r_istore (pc' := 27) (loc' := [some (.inr (.inr 64)), some (.inl p1), some (.inl p2), some (.inl p3), some (.inl 0)]) dX11_givesFrom_25 rfl rfl rfl rfl ?_
      exact h
    · have h := hf4 c
      exact e_r_vret rfl dX11_givesFrom_18 h
