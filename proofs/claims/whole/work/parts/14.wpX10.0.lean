theorem wp_X10_feed_0 {X : e_X} {d gn : Nat} {o : e_O} (M : e_M) (p1 p2 p3 p4 p5 : Int) (hmo : e_mn (557, gn, e_RF, M) o.2) (h : (∃ (r2 : Int) (N1 : e_M), e_E X d YX7_hasRoomFor [.inr (.inr 2), .inl 20] (557, gn, e_RF, M) (.inl (some (.inl r2)), (557, gn, e_RF, N1)) ∧ ((¬ r2 = 0 → (∃ N6 : e_M, e_E X d YX7_addBytesOf [.inr (.inr 2), .inl p1] (557, gn, e_RF, N1) (.inl none, (557, gn, e_RF, N6)) ∧ (∃ N8 : e_M, e_E X d YX7_addBytesOf [.inr (.inr 2), .inl p2] (557, gn, e_RF, N6) (.inl none, (557, gn, e_RF, N8)) ∧ (∃ N10 : e_M, e_E X d YX7_addBytesOf [.inr (.inr 2), .inl p3] (557, gn, e_RF, N8) (.inl none, (557, gn, e_RF, N10)) ∧ (∃ N12 : e_M, e_E X d YX7_addBytesOf [.inr (.inr 2), .inl p4] (557, gn, e_RF, N10) (.inl none, (557, gn, e_RF, N12)) ∧ (∃ N14 : e_M, e_E X d YX7_addBytesOf [.inr (.inr 2), .inl p5] (557, gn, e_RF, N12) (.inl none, (557, gn, e_RF, N14)) ∧ (o = (.inl (some (.inl (N14 2 1))), (557, gn, e_RF, N14))))))))) ∧ (r2 = 0 → (o = (.inl (some (.inl (-1))), (557, gn, e_RF, N1))))))) : e_G X (d + 1) YX10_feed 0 [some (.inr (.inr 1)), some (.inl p1), some (.inl p2), some (.inl p3), some (.inl p4), some (.inl p5)] [] (557, gn, e_RF, M) o := by
  refine e_r_aload_n (pc' := 1) (by decide) dX10_feed_0 rfl rfl rfl ?_
  refine e_r_getr (k := 0) (q := 2) (pc' := 4) cl_10 rfl (Nat.le_of_ble_eq_true rfl) rfl rfl fl_RX10_10 rfl (Nat.le_of_ble_eq_true rfl) dX10_feed_1 rfl ?_
  refine e_r_bipush (pc' := 6) dX10_feed_4 rfl (by decide) ?_
  obtain ⟨r2, N1, he3, h⟩ := h
  refine e_r_callV (a := 2) (av := [.inl 20]) (st := []) mqYX7_hasRoomFor ml_RX10_114 cl_7 rfl (Nat.le_of_ble_eq_true rfl) (by simp [e_cat]) rfl rfl rfl dX10_feed_6 (pc' := 9) rfl he3 ⟨Nat.le_refl _, Nat.le_refl _⟩ hmo ?_
  obtain ⟨ht4, hf5⟩ := h
  refine e_r_if_ne (tgt := 14) (pc' := 12) dX10_feed_9 rfl rfl (fun c => ?_) (fun c => ?_)
  · have h := ht4 c
    refine e_r_aload_n (pc' := 15) (by decide) dX10_feed_14 rfl rfl rfl ?_
    refine e_r_getr (k := 0) (q := 2) (pc' := 18) cl_10 rfl (Nat.le_of_ble_eq_true rfl) rfl rfl fl_RX10_10 rfl (Nat.le_of_ble_eq_true rfl) dX10_feed_15 rfl ?_
    refine e_r_iload_n (pc' := 19) dX10_feed_18 rfl rfl rfl ?_
    obtain ⟨N6, he7, h⟩ := h
    refine e_r_callV (a := 2) (av := [.inl p1]) (st := []) mqYX7_addBytesOf ml_RX10_118 cl_7 rfl (Nat.le_of_ble_eq_true rfl) (by simp [e_cat]) rfl rfl rfl dX10_feed_19 (pc' := 22) rfl he7 ⟨Nat.le_refl _, Nat.le_refl _⟩ hmo ?_
    refine e_r_aload_n (pc' := 23) (by decide) dX10_feed_22 rfl rfl rfl ?_
    refine e_r_getr (k := 0) (q := 2) (pc' := 26) cl_10 rfl (Nat.le_of_ble_eq_true rfl) rfl rfl fl_RX10_10 rfl (Nat.le_of_ble_eq_true rfl) dX10_feed_23 rfl ?_
    refine e_r_iload_n (pc' := 27) dX10_feed_26 rfl rfl rfl ?_
    obtain ⟨N8, he9, h⟩ := h
    refine e_r_callV (a := 2) (av := [.inl p2]) (st := []) mqYX7_addBytesOf ml_RX10_118 cl_7 rfl (Nat.le_of_ble_eq_true rfl) (by simp [e_cat]) rfl rfl rfl dX10_feed_27 (pc' := 30) rfl he9 ⟨Nat.le_refl _, Nat.le_refl _⟩ hmo ?_
    refine e_r_aload_n (pc' := 31) (by decide) dX10_feed_30 rfl rfl rfl ?_
    refine e_r_getr (k := 0) (q := 2) (pc' := 34) cl_10 rfl (Nat.le_of_ble_eq_true rfl) rfl rfl fl_RX10_10 rfl (Nat.le_of_ble_eq_true rfl) dX10_feed_31 rfl ?_
    refine e_r_iload_n (pc' := 35) dX10_feed_34 rfl rfl rfl ?_
    obtain ⟨N10, he11, h⟩ := h
    refine e_r_callV (a := 2) (av := [.inl p3]) (st := []) mqYX7_addBytesOf ml_RX10_118 cl_7 rfl (Nat.le_of_ble_eq_true rfl) (by simp [e_cat]) rfl rfl rfl dX10_feed_35 (pc' := 38) rfl he11 ⟨Nat.le_refl _, Nat.le_refl _⟩ hmo ?_
    refine e_r_aload_n (pc' := 39) (by decide) dX10_feed_38 rfl rfl rfl ?_
    refine e_r_getr (k := 0) (q := 2) (pc' := 42) cl_10 rfl (Nat.le_of_ble_eq_true rfl) rfl rfl fl_RX10_10 rfl (Nat.le_of_ble_eq_true rfl) dX10_feed_39 rfl ?_
    refine e_r_iload (pc' := 44) dX10_feed_42 rfl rfl ?_
    obtain ⟨N12, he13, h⟩ := h
    refine e_r_callV (a := 2) (av := [.inl p4]) (st := []) mqYX7_addBytesOf ml_RX10_118 cl_7 rfl (Nat.le_of_ble_eq_true rfl) (by simp [e_cat]) rfl rfl rfl dX10_feed_44 (pc' := 47) rfl he13 ⟨Nat.le_refl _, Nat.le_refl _⟩ hmo ?_
    refine e_r_aload_n (pc' := 48) (by decide) dX10_feed_47 rfl rfl rfl ?_
    refine e_r_getr (k := 0) (q := 2) (pc' := 51) cl_10 rfl (Nat.le_of_ble_eq_true rfl) rfl rfl fl_RX10_10 rfl (Nat.le_of_ble_eq_true rfl) dX10_feed_48 rfl ?_
    refine e_r_iload (pc' := 53) dX10_feed_51 rfl rfl ?_
    obtain ⟨N14, he15, h⟩ := h
    refine e_r_callV (a := 2) (av := [.inl p5]) (st := []) mqYX7_addBytesOf ml_RX10_118 cl_7 rfl (Nat.le_of_ble_eq_true rfl) (by simp [e_cat]) rfl rfl rfl dX10_feed_53 (pc' := 56) rfl he15 ⟨Nat.le_refl _, Nat.le_refl _⟩ hmo ?_
    refine e_r_aload_n (pc' := 57) (by decide) dX10_feed_56 rfl rfl rfl ?_
    refine e_r_getr (k := 0) (q := 2) (pc' := 60) cl_10 rfl (Nat.le_of_ble_eq_true rfl) rfl rfl fl_RX10_10 rfl (Nat.le_of_ble_eq_true rfl) dX10_feed_57 rfl ?_
    refine e_r_geti (k := 1) (pc' := 63) cl_7 rfl (Nat.le_of_ble_eq_true rfl) rfl rfl fl_RX10_122 dX10_feed_60 rfl ?_
    exact e_r_iret (ty := .int) rfl (e_nI _) dX10_feed_63 h
  · have h := hf5 c
    refine e_r_iconst (pc' := 13) dX10_feed_12 rfl (by decide) ?_
    exact e_r_iret (ty := .int) rfl (e_nI _) dX10_feed_13 h
theorem wp_X10_town_0 {X : e_X} {d gn : Nat} {o : e_O} (M : e_M) (p1 : Int) (hmo : e_mn (557, gn, e_RF, M) o.2) (h : ((∃ N1 : e_M, e_E X d YX10_needText [.inr (.inr 1), .inl p1, .inl 600] (557, gn, e_RF, M) (.inl none, (557, gn, e_RF, N1)) ∧ (∃ N5 : e_M, e_E X d YX7_beginReading [.inr (.inr 2), .inl p1] (557, gn, e_RF, N1) (.inl none, (557, gn, e_RF, N5)) ∧ (∃ N7 : e_M, e_E X d YX8_readFrom [.inr (.inr 12), .inr (.inr 2)] (557, gn, e_RF, N5) (.inl none, (557, gn, e_RF, N7)) ∧ (∃ (r10 : Int) (N9 : e_M), e_E X d YX7_flawed [.inr (.inr 2)] (557, gn, e_RF, N7) (.inl (some (.inl r10)), (557, gn, e_RF, N9)) ∧ ((r10 = 0 → (∃ N14 : e_M, e_E X d YX8_copyFrom [.inr (.inr 4), .inr (.inr 12)] (557, gn, e_RF, N9) (.inl none, (557, gn, e_RF, N14)) ∧ (∃ N16 : e_M, e_E X d YX2_drop [.inr (.inr 20)] (557, gn, e_RF, N14) (.inl none, (557, gn, e_RF, N16)) ∧ (∃ N18 : e_M, e_E X d YX0_drop [.inr (.inr 28)] (557, gn, e_RF, N16) (.inl none, (557, gn, e_RF, N18)) ∧ (∃ N20 : e_M, e_E X d YX4_forgetRefused [.inr (.inr 32)] (557, gn, e_RF, N18) (.inl none, (557, gn, e_RF, N20)) ∧ (∃ N22 : e_M, e_E X d YX5_drop [.inr (.inr 55)] (557, gn, e_RF, N20) (.inl none, (557, gn, e_RF, N22)) ∧ (∃ N24 : e_M, e_E X d YX3_begin [.inr (.inr 36)] (557, gn, e_RF, (e_up N22 1 15 0)) (.inl none, (557, gn, e_RF, N24)) ∧ (o = (.inl (some (.inl (N24 4 0))), (557, gn, e_RF, N24)))))))))) ∧ (¬ (r10 = 0) → (∃ (r27 : Int) (N26 : e_M), e_E X d YX7_flawAnswer [.inr (.inr 2)] (557, gn, e_RF, N9) (.inl (some (.inl r27)), (557, gn, e_RF, N26)) ∧ (o = (.inl (some (.inl r27)), (557, gn, e_RF, N26)))))))))) ∨ (∃ (z3 : Nat) (N4 : e_M), e_E X d YX10_needText [.inr (.inr 1), .inl p1, .inl 600] (557, gn, e_RF, M) (.inr z3, (557, gn + 1, e_RF, N4)) ∧ o = (.inr z3, (557, gn + 1, e_RF, N4))))) : e_G X (d + 1) YX10_town 0 [some (.inr (.inr 1)), some (.inl p1)] [] (557, gn, e_RF, M) o := by
  refine e_r_aload_n (pc' := 1) (by decide) dX10_town_0 rfl rfl rfl ?_
  refine e_r_iload_n (pc' := 2) dX10_town_1 rfl rfl rfl ?_
  refine e_r_sipush (pc' := 5) dX10_town_2 rfl (by decide) ?_
  rcases h with ⟨N1, he2, h⟩ | ⟨z3, N4, he2, h⟩
  · refine e_r_callV (a := 1) (av := [.inl p1, .inl 600]) (st := []) mqYX10_needText ml_RX10_125 cl_10 rfl (Nat.le_of_ble_eq_true rfl) (by simp [e_cat]) rfl rfl rfl dX10_town_5 (pc' := 8) rfl he2 ⟨Nat.le_refl _, Nat.le_refl _⟩ hmo ?_
    refine e_r_aload_n (pc' := 9) (by decide) dX10_town_8 rfl rfl rfl ?_
    refine e_r_getr (k := 0) (q := 2) (pc' := 12) cl_10 rfl (Nat.le_of_ble_eq_true rfl) rfl rfl fl_RX10_10 rfl (Nat.le_of_ble_eq_true rfl) dX10_town_9 rfl ?_
    refine e_r_iload_n (pc' := 13) dX10_town_12 rfl rfl rfl ?_
    obtain ⟨N5, he6, h⟩ := h
    refine e_r_callV (a := 2) (av := [.inl p1]) (st := []) mqYX7_beginReading ml_RX10_129 cl_7 rfl (Nat.le_of_ble_eq_true rfl) (by simp [e_cat]) rfl rfl rfl dX10_town_13 (pc' := 16) rfl he6 ⟨Nat.le_refl _, Nat.le_refl _⟩ hmo ?_
    refine e_r_aload_n (pc' := 17) (by decide) dX10_town_16 rfl rfl rfl ?_
    refine e_r_getr (k := 2) (q := 12) (pc' := 20) cl_10 rfl (Nat.le_of_ble_eq_true rfl) rfl rfl fl_RX10_23 rfl (Nat.le_of_ble_eq_true rfl) dX10_town_17 rfl ?_
    refine e_r_aload_n (pc' := 21) (by decide) dX10_town_20 rfl rfl rfl ?_
    refine e_r_getr (k := 0) (q := 2) (pc' := 24) cl_10 rfl (Nat.le_of_ble_eq_true rfl) rfl rfl fl_RX10_10 rfl (Nat.le_of_ble_eq_true rfl) dX10_town_21 rfl ?_
    obtain ⟨N7, he8, h⟩ := h
    refine e_r_callV (a := 12) (av := [.inr (.inr 2)]) (st := []) mqYX8_readFrom ml_RX10_132 cl_8 rfl (Nat.le_of_ble_eq_true rfl) (by simp [e_cat]) rfl rfl rfl dX10_town_24 (pc' := 27) rfl he8 ⟨Nat.le_refl _, Nat.le_refl _⟩ hmo ?_
    refine e_r_aload_n (pc' := 28) (by decide) dX10_town_27 rfl rfl rfl ?_
    refine e_r_getr (k := 0) (q := 2) (pc' := 31) cl_10 rfl (Nat.le_of_ble_eq_true rfl) rfl rfl fl_RX10_10 rfl (Nat.le_of_ble_eq_true rfl) dX10_town_28 rfl ?_
    obtain ⟨r10, N9, he11, h⟩ := h
    refine e_r_callV (a := 2) (av := []) (st := []) mqYX7_flawed ml_RX10_136 cl_7 rfl (Nat.le_of_ble_eq_true rfl) (by simp [e_cat]) rfl rfl rfl dX10_town_31 (pc' := 34) rfl he11 ⟨Nat.le_refl _, Nat.le_refl _⟩ hmo ?_
    obtain ⟨ht12, hf13⟩ := h
    refine e_r_if_eq (tgt := 45) (pc' := 37) dX10_town_34 rfl rfl (fun c => ?_) (fun c => ?_)
    · have h := ht12 c
      refine e_r_aload_n (pc' := 46) (by decide) dX10_town_45 rfl rfl rfl ?_
      refine e_r_getr (k := 1) (q := 4) (pc' := 49) cl_10 rfl (Nat.le_of_ble_eq_true rfl) rfl rfl fl_RX10_19 rfl (Nat.le_of_ble_eq_true rfl) dX10_town_46 rfl ?_
      refine e_r_aload_n (pc' := 50) (by decide) dX10_town_49 rfl rfl rfl ?_
      refine e_r_getr (k := 2) (q := 12) (pc' := 53) cl_10 rfl (Nat.le_of_ble_eq_true rfl) rfl rfl fl_RX10_23 rfl (Nat.le_of_ble_eq_true rfl) dX10_town_50 rfl ?_
      obtain ⟨N14, he15, h⟩ := h
      refine e_r_callV (a := 4) (av := [.inr (.inr 12)]) (st := []) mqYX8_copyFrom ml_RX10_144 cl_8 rfl (Nat.le_of_ble_eq_true rfl) (by simp [e_cat]) rfl rfl rfl dX10_town_53 (pc' := 56) rfl he15 ⟨Nat.le_refl _, Nat.le_refl _⟩ hmo ?_
      refine e_r_aload_n (pc' := 57) (by decide) dX10_town_56 rfl rfl rfl ?_
      refine e_r_getr (k := 3) (q := 20) (pc' := 60) cl_10 rfl (Nat.le_of_ble_eq_true rfl) rfl rfl fl_RX10_29 rfl (Nat.le_of_ble_eq_true rfl) dX10_town_57 rfl ?_
      obtain ⟨N16, he17, h⟩ := h
      refine e_r_callV (a := 20) (av := []) (st := []) mqYX2_drop ml_RX10_147 cl_2 rfl (Nat.le_of_ble_eq_true rfl) (by simp [e_cat]) rfl rfl rfl dX10_town_60 (pc' := 63) rfl he17 ⟨Nat.le_refl _, Nat.le_refl _⟩ hmo ?_
      refine e_r_aload_n (pc' := 64) (by decide) dX10_town_63 rfl rfl rfl ?_
      refine e_r_getr (k := 5) (q := 28) (pc' := 67) cl_10 rfl (Nat.le_of_ble_eq_true rfl) rfl rfl fl_RX10_39 rfl (Nat.le_of_ble_eq_true rfl) dX10_town_64 rfl ?_
      obtain ⟨N18, he19, h⟩ := h
      refine e_r_callV (a := 28) (av := []) (st := []) mqYX0_drop ml_RX10_150 cl_0 rfl (Nat.le_of_ble_eq_true rfl) (by simp [e_cat]) rfl rfl rfl dX10_town_67 (pc' := 70) rfl he19 ⟨Nat.le_refl _, Nat.le_refl _⟩ hmo ?_
      refine e_r_aload_n (pc' := 71) (by decide) dX10_town_70 rfl rfl rfl ?_
      refine e_r_getr (k := 7) (q := 32) (pc' := 74) cl_10 rfl (Nat.le_of_ble_eq_true rfl) rfl rfl fl_RX10_49 rfl (Nat.le_of_ble_eq_true rfl) dX10_town_71 rfl ?_
      obtain ⟨N20, he21, h⟩ := h
      refine e_r_callV (a := 32) (av := []) (st := []) mqYX4_forgetRefused ml_RX10_151 cl_4 rfl (Nat.le_of_ble_eq_true rfl) (by simp [e_cat]) rfl rfl rfl dX10_town_74 (pc' := 77) rfl he21 ⟨Nat.le_refl _, Nat.le_refl _⟩ hmo ?_
      refine e_r_aload_n (pc' := 78) (by decide) dX10_town_77 rfl rfl rfl ?_
      refine e_r_getr (k := 13) (q := 55) (pc' := 81) cl_10 rfl (Nat.le_of_ble_eq_true rfl) rfl rfl fl_RX10_93 rfl (Nat.le_of_ble_eq_true rfl) dX10_town_78 rfl ?_
      obtain ⟨N22, he23, h⟩ := h
      refine e_r_callV (a := 55) (av := []) (st := []) mqYX5_drop ml_RX10_154 cl_5 rfl (Nat.le_of_ble_eq_true rfl) (by simp [e_cat]) rfl rfl rfl dX10_town_81 (pc' := 84) rfl he23 ⟨Nat.le_refl _, Nat.le_refl _⟩ hmo ?_
      refine e_r_aload_n (pc' := 85) (by decide) dX10_town_84 rfl rfl rfl ?_
      refine e_r_iconst (pc' := 86) dX10_town_85 rfl (by decide) ?_
      refine e_r_puti (k := 15) (pc' := 89) cl_10 rfl (Nat.le_of_ble_eq_true rfl) rfl rfl fl_RX10_101 rfl (by decide +kernel) dX10_town_86 rfl ?_
      refine e_r_aload_n (pc' := 90) (by decide) dX10_town_89 rfl rfl rfl ?_
      refine e_r_getr (k := 8) (q := 36) (pc' := 93) cl_10 rfl (Nat.le_of_ble_eq_true rfl) rfl rfl fl_RX10_58 rfl (Nat.le_of_ble_eq_true rfl) dX10_town_90 rfl ?_
      obtain ⟨N24, he25, h⟩ := h
      refine e_r_callV (a := 36) (av := []) (st := []) mqYX3_begin ml_RX10_111 cl_3 rfl (Nat.le_of_ble_eq_true rfl) (by simp [e_cat]) rfl rfl rfl dX10_town_93 (pc' := 96) rfl he25 ⟨Nat.le_refl _, Nat.le_refl _⟩ hmo ?_
      refine e_r_aload_n (pc' := 97) (by decide) dX10_town_96 rfl rfl rfl ?_
      refine e_r_getr (k := 1) (q := 4) (pc' := 100) cl_10 rfl (Nat.le_of_ble_eq_true rfl) rfl rfl fl_RX10_19 rfl (Nat.le_of_ble_eq_true rfl) dX10_town_97 rfl ?_
      refine e_r_geti (k := 0) (pc' := 103) cl_8 rfl (Nat.le_of_ble_eq_true rfl) rfl rfl fl_RX10_155 dX10_town_100 rfl ?_
      exact e_r_iret (ty := .int) rfl (e_nI _) dX10_town_103 h
    · have h := hf13 c
      refine e_r_aload_n (pc' := 38) (by decide) dX10_town_37 rfl rfl rfl ?_
      refine e_r_getr (k := 0) (q := 2) (pc' := 41) cl_10 rfl (Nat.le_of_ble_eq_true rfl) rfl rfl fl_RX10_10 rfl (Nat.le_of_ble_eq_true rfl) dX10_town_38 rfl ?_
      obtain ⟨r27, N26, he28, h⟩ := h
      refine e_r_callV (a := 2) (av := []) (st := []) mqYX7_flawAnswer ml_RX10_140 cl_7 rfl (Nat.le_of_ble_eq_true rfl) (by simp [e_cat]) rfl rfl rfl dX10_town_41 (pc' := 44) rfl he28 ⟨Nat.le_refl _, Nat.le_refl _⟩ hmo ?_
      exact e_r_iret (ty := .int) rfl (e_nI _) dX10_town_44 h
  · exact e_r_callVx (a := 1) (av := [.inl p1, .inl 600]) (st := []) mqYX10_needText ml_RX10_125 cl_10 rfl (Nat.le_of_ble_eq_true rfl) (by simp [e_cat]) rfl rfl rfl dX10_town_5 rfl he2 ⟨Nat.le_refl _, Nat.le_succ _⟩ h
theorem wp_X10_law_0 {X : e_X} {d gn : Nat} {o : e_O} (M : e_M) (p1 : Int) (hmo : e_mn (557, gn, e_RF, M) o.2) (h : ((∃ N1 : e_M, e_E X d YX10_needText [.inr (.inr 1), .inl p1, .inl 150] (557, gn, e_RF, M) (.inl none, (557, gn, e_RF, N1)) ∧ (∃ N5 : e_M, e_E X d YX7_beginReading [.inr (.inr 2), .inl p1] (557, gn, e_RF, N1) (.inl none, (557, gn, e_RF, N5)) ∧ (∃ N7 : e_M, e_E X d YX2_readFrom [.inr (.inr 24), .inr (.inr 2)] (557, gn, e_RF, N5) (.inl none, (557, gn, e_RF, N7)) ∧ (∃ (r10 : Int) (N9 : e_M), e_E X d YX7_flawed [.inr (.inr 2)] (557, gn, e_RF, N7) (.inl (some (.inl r10)), (557, gn, e_RF, N9)) ∧ ((r10 = 0 → (∃ N14 : e_M, e_E X d YX2_copyFrom [.inr (.inr 20), .inr (.inr 24)] (557, gn, e_RF, N9) (.inl none, (557, gn, e_RF, N14)) ∧ (o = (.inl (some (.inl 1)), (557, gn, e_RF, N14))))) ∧ (¬ (r10 = 0) → (∃ (r17 : Int) (N16 : e_M), e_E X d YX7_flawAnswer [.inr (.inr 2)] (557, gn, e_RF, N9) (.inl (some (.inl r17)), (557, gn, e_RF, N16)) ∧ (o = (.inl (some (.inl r17)), (557, gn, e_RF, N16)))))))))) ∨ (∃ (z3 : Nat) (N4 : e_M), e_E X d YX10_needText [.inr (.inr 1), .inl p1, .inl 150] (557, gn, e_RF, M) (.inr z3, (557, gn + 1, e_RF, N4)) ∧ o = (.inr z3, (557, gn + 1, e_RF, N4))))) : e_G X (d + 1) YX10_law 0 [some (.inr (.inr 1)), some (.inl p1)] [] (557, gn, e_RF, M) o := by
  refine e_r_aload_n (pc' := 1) (by decide) dX10_law_0 rfl rfl rfl ?_
  refine e_r_iload_n (pc' := 2) dX10_law_1 rfl rfl rfl ?_
  refine e_r_sipush (pc' := 5) dX10_law_2 rfl (by decide) ?_
  rcases h with ⟨N1, he2, h⟩ | ⟨z3, N4, he2, h⟩
  · refine e_r_callV (a := 1) (av := [.inl p1, .inl 150]) (st := []) mqYX10_needText ml_RX10_125 cl_10 rfl (Nat.le_of_ble_eq_true rfl) (by simp [e_cat]) rfl rfl rfl dX10_law_5 (pc' := 8) rfl he2 ⟨Nat.le_refl _, Nat.le_refl _⟩ hmo ?_
    refine e_r_aload_n (pc' := 9) (by decide) dX10_law_8 rfl rfl rfl ?_
    refine e_r_getr (k := 0) (q := 2) (pc' := 12) cl_10 rfl (Nat.le_of_ble_eq_true rfl) rfl rfl fl_RX10_10 rfl (Nat.le_of_ble_eq_true rfl) dX10_law_9 rfl ?_
    refine e_r_iload_n (pc' := 13) dX10_law_12 rfl rfl rfl ?_
    obtain ⟨N5, he6, h⟩ := h
    refine e_r_callV (a := 2) (av := [.inl p1]) (st := []) mqYX7_beginReading ml_RX10_129 cl_7 rfl (Nat.le_of_ble_eq_true rfl) (by simp [e_cat]) rfl rfl rfl dX10_law_13 (pc' := 16) rfl he6 ⟨Nat.le_refl _, Nat.le_refl _⟩ hmo ?_
    refine e_r_aload_n (pc' := 17) (by decide) dX10_law_16 rfl rfl rfl ?_
    refine e_r_getr (k := 4) (q := 24) (pc' := 20) cl_10 rfl (Nat.le_of_ble_eq_true rfl) rfl rfl fl_RX10_33 rfl (Nat.le_of_ble_eq_true rfl) dX10_law_17 rfl ?_
    refine e_r_aload_n (pc' := 21) (by decide) dX10_law_20 rfl rfl rfl ?_
    refine e_r_getr (k := 0) (q := 2) (pc' := 24) cl_10 rfl (Nat.le_of_ble_eq_true rfl) rfl rfl fl_RX10_10 rfl (Nat.le_of_ble_eq_true rfl) dX10_law_21 rfl ?_
    obtain ⟨N7, he8, h⟩ := h
    refine e_r_callV (a := 24) (av := [.inr (.inr 2)]) (st := []) mqYX2_readFrom ml_RX10_158 cl_2 rfl (Nat.le_of_ble_eq_true rfl) (by simp [e_cat]) rfl rfl rfl dX10_law_24 (pc' := 27) rfl he8 ⟨Nat.le_refl _, Nat.le_refl _⟩ hmo ?_
    refine e_r_aload_n (pc' := 28) (by decide) dX10_law_27 rfl rfl rfl ?_
    refine e_r_getr (k := 0) (q := 2) (pc' := 31) cl_10 rfl (Nat.le_of_ble_eq_true rfl) rfl rfl fl_RX10_10 rfl (Nat.le_of_ble_eq_true rfl) dX10_law_28 rfl ?_
    obtain ⟨r10, N9, he11, h⟩ := h
    refine e_r_callV (a := 2) (av := []) (st := []) mqYX7_flawed ml_RX10_136 cl_7 rfl (Nat.le_of_ble_eq_true rfl) (by simp [e_cat]) rfl rfl rfl dX10_law_31 (pc' := 34) rfl he11 ⟨Nat.le_refl _, Nat.le_refl _⟩ hmo ?_
    obtain ⟨ht12, hf13⟩ := h
    refine e_r_if_eq (tgt := 45) (pc' := 37) dX10_law_34 rfl rfl (fun c => ?_) (fun c => ?_)
    · have h := ht12 c
      refine e_r_aload_n (pc' := 46) (by decide) dX10_law_45 rfl rfl rfl ?_
      refine e_r_getr (k := 3) (q := 20) (pc' := 49) cl_10 rfl (Nat.le_of_ble_eq_true rfl) rfl rfl fl_RX10_29 rfl (Nat.le_of_ble_eq_true rfl) dX10_law_46 rfl ?_
      refine e_r_aload_n (pc' := 50) (by decide) dX10_law_49 rfl rfl rfl ?_
      refine e_r_getr (k := 4) (q := 24) (pc' := 53) cl_10 rfl (Nat.le_of_ble_eq_true rfl) rfl rfl fl_RX10_33 rfl (Nat.le_of_ble_eq_true rfl) dX10_law_50 rfl ?_
      obtain ⟨N14, he15, h⟩ := h
      refine e_r_callV (a := 20) (av := [.inr (.inr 24)]) (st := []) mqYX2_copyFrom ml_RX10_159 cl_2 rfl (Nat.le_of_ble_eq_true rfl) (by simp [e_cat]) rfl rfl rfl dX10_law_53 (pc' := 56) rfl he15 ⟨Nat.le_refl _, Nat.le_refl _⟩ hmo ?_
      refine e_r_iconst (pc' := 57) dX10_law_56 rfl (by decide) ?_
      exact e_r_iret (ty := .int) rfl (e_nI _) dX10_law_57 h
    · have h := hf13 c
      refine e_r_aload_n (pc' := 38) (by decide) dX10_law_37 rfl rfl rfl ?_
      refine e_r_getr (k := 0) (q := 2) (pc' := 41) cl_10 rfl (Nat.le_of_ble_eq_true rfl) rfl rfl fl_RX10_10 rfl (Nat.le_of_ble_eq_true rfl) dX10_law_38 rfl ?_
      obtain ⟨r17, N16, he18, h⟩ := h
      refine e_r_callV (a := 2) (av := []) (st := []) mqYX7_flawAnswer ml_RX10_140 cl_7 rfl (Nat.le_of_ble_eq_true rfl) (by simp [e_cat]) rfl rfl rfl dX10_law_41 (pc' := 44) rfl he18 ⟨Nat.le_refl _, Nat.le_refl _⟩ hmo ?_
      exact e_r_iret (ty := .int) rfl (e_nI _) dX10_law_44 h
  · exact e_r_callVx (a := 1) (av := [.inl p1, .inl 150]) (st := []) mqYX10_needText ml_RX10_125 cl_10 rfl (Nat.le_of_ble_eq_true rfl) (by simp [e_cat]) rfl rfl rfl dX10_law_5 rfl he2 ⟨Nat.le_refl _, Nat.le_succ _⟩ h
theorem wp_X10_work_0 {X : e_X} {d gn : Nat} {o : e_O} (M : e_M) (p1 : Int) (hmo : e_mn (557, gn, e_RF, M) o.2) (h : ((∃ N1 : e_M, e_E X d YX10_needText [.inr (.inr 1), .inl p1, .inl 150] (557, gn, e_RF, M) (.inl none, (557, gn, e_RF, N1)) ∧ (∃ N5 : e_M, e_E X d YX7_beginReading [.inr (.inr 2), .inl p1] (557, gn, e_RF, N1) (.inl none, (557, gn, e_RF, N5)) ∧ (((N5 55 1) < 16 → (∃ N9 : e_M, e_E X d YX4_readFrom [.inr (.inr 32), .inr (.inr 2), .inr (.inr 4)] (557, gn, e_RF, N5) (.inl none, (557, gn, e_RF, N9)) ∧ (∃ (r12 : Int) (N11 : e_M), e_E X d YX7_flawed [.inr (.inr 2)] (557, gn, e_RF, N9) (.inl (some (.inl r12)), (557, gn, e_RF, N11)) ∧ ((r12 = 0 → (∃ N16 : e_M, e_E X d YX5_push [.inr (.inr 55), .inr (.inr 36)] (557, gn, e_RF, N11) (.inl none, (557, gn, e_RF, N16)) ∧ (∃ (r19 : Int) (N18 : e_M), e_E X d YX4_runOn [.inr (.inr 32), .inr (.inr 36)] (557, gn, e_RF, N16) (.inl (some (.inl r19)), (557, gn, e_RF, N18)) ∧ (o = (.inl (some (.inl r19)), (557, gn, e_RF, N18)))))) ∧ (¬ (r12 = 0) → (∃ (r22 : Int) (N21 : e_M), e_E X d YX7_flawAnswer [.inr (.inr 2)] (557, gn, e_RF, N11) (.inl (some (.inl r22)), (557, gn, e_RF, N21)) ∧ (o = (.inl (some (.inl r22)), (557, gn, e_RF, N21))))))))) ∧ (¬ ((N5 55 1) < 16) → (o = (.inl (some (.inl (-20))), (557, gn, e_RF, N5))))))) ∨ (∃ (z3 : Nat) (N4 : e_M), e_E X d YX10_needText [.inr (.inr 1), .inl p1, .inl 150] (557, gn, e_RF, M) (.inr z3, (557, gn + 1, e_RF, N4)) ∧ o = (.inr z3, (557, gn + 1, e_RF, N4))))) : e_G X (d + 1) YX10_work 0 [some (.inr (.inr 1)), some (.inl p1)] [] (557, gn, e_RF, M) o := by
  refine e_r_aload_n (pc' := 1) (by decide) dX10_work_0 rfl rfl rfl ?_
  refine e_r_iload_n (pc' := 2) dX10_work_1 rfl rfl rfl ?_
  refine e_r_sipush (pc' := 5) dX10_work_2 rfl (by decide) ?_
  rcases h with ⟨N1, he2, h⟩ | ⟨z3, N4, he2, h⟩
  · refine e_r_callV (a := 1) (av := [.inl p1, .inl 150]) (st := []) mqYX10_needText ml_RX10_125 cl_10 rfl (Nat.le_of_ble_eq_true rfl) (by simp [e_cat]) rfl rfl rfl dX10_work_5 (pc' := 8) rfl he2 ⟨Nat.le_refl _, Nat.le_refl _⟩ hmo ?_
    refine e_r_aload_n (pc' := 9) (by decide) dX10_work_8 rfl rfl rfl ?_
    refine e_r_getr (k := 0) (q := 2) (pc' := 12) cl_10 rfl (Nat.le_of_ble_eq_true rfl) rfl rfl fl_RX10_10 rfl (Nat.le_of_ble_eq_true rfl) dX10_work_9 rfl ?_
    refine e_r_iload_n (pc' := 13) dX10_work_12 rfl rfl rfl ?_
    obtain ⟨N5, he6, h⟩ := h
    refine e_r_callV (a := 2) (av := [.inl p1]) (st := []) mqYX7_beginReading ml_RX10_129 cl_7 rfl (Nat.le_of_ble_eq_true rfl) (by simp [e_cat]) rfl rfl rfl dX10_work_13 (pc' := 16) rfl he6 ⟨Nat.le_refl _, Nat.le_refl _⟩ hmo ?_
    refine e_r_aload_n (pc' := 17) (by decide) dX10_work_16 rfl rfl rfl ?_
    refine e_r_getr (k := 13) (q := 55) (pc' := 20) cl_10 rfl (Nat.le_of_ble_eq_true rfl) rfl rfl fl_RX10_93 rfl (Nat.le_of_ble_eq_true rfl) dX10_work_17 rfl ?_
    refine e_r_geti (k := 1) (pc' := 23) cl_5 rfl (Nat.le_of_ble_eq_true rfl) rfl rfl fl_RX10_162 dX10_work_20 rfl ?_
    refine e_r_bipush (pc' := 25) dX10_work_23 rfl (by decide) ?_
    obtain ⟨ht7, hf8⟩ := h
    refine e_r_icmp_lt (tgt := 31) (pc' := 28) dX10_work_25 rfl rfl (fun c => ?_) (fun c => ?_)
    · have h := ht7 c
      refine e_r_aload_n (pc' := 32) (by decide) dX10_work_31 rfl rfl rfl ?_
      refine e_r_getr (k := 7) (q := 32) (pc' := 35) cl_10 rfl (Nat.le_of_ble_eq_true rfl) rfl rfl fl_RX10_49 rfl (Nat.le_of_ble_eq_true rfl) dX10_work_32 rfl ?_
      refine e_r_aload_n (pc' := 36) (by decide) dX10_work_35 rfl rfl rfl ?_
      refine e_r_getr (k := 0) (q := 2) (pc' := 39) cl_10 rfl (Nat.le_of_ble_eq_true rfl) rfl rfl fl_RX10_10 rfl (Nat.le_of_ble_eq_true rfl) dX10_work_36 rfl ?_
      refine e_r_aload_n (pc' := 40) (by decide) dX10_work_39 rfl rfl rfl ?_
      refine e_r_getr (k := 1) (q := 4) (pc' := 43) cl_10 rfl (Nat.le_of_ble_eq_true rfl) rfl rfl fl_RX10_19 rfl (Nat.le_of_ble_eq_true rfl) dX10_work_40 rfl ?_
      obtain ⟨N9, he10, h⟩ := h
      refine e_r_callV (a := 32) (av := [.inr (.inr 2), .inr (.inr 4)]) (st := []) mqYX4_readFrom ml_RX10_165 cl_4 rfl (Nat.le_of_ble_eq_true rfl) (by simp [e_cat]) rfl rfl rfl dX10_work_43 (pc' := 46) rfl he10 ⟨Nat.le_refl _, Nat.le_refl _⟩ hmo ?_
      refine e_r_aload_n (pc' := 47) (by decide) dX10_work_46 rfl rfl rfl ?_
      refine e_r_getr (k := 0) (q := 2) (pc' := 50) cl_10 rfl (Nat.le_of_ble_eq_true rfl) rfl rfl fl_RX10_10 rfl (Nat.le_of_ble_eq_true rfl) dX10_work_47 rfl ?_
      obtain ⟨r12, N11, he13, h⟩ := h
      refine e_r_callV (a := 2) (av := []) (st := []) mqYX7_flawed ml_RX10_136 cl_7 rfl (Nat.le_of_ble_eq_true rfl) (by simp [e_cat]) rfl rfl rfl dX10_work_50 (pc' := 53) rfl he13 ⟨Nat.le_refl _, Nat.le_refl _⟩ hmo ?_
      obtain ⟨ht14, hf15⟩ := h
      refine e_r_if_eq (tgt := 64) (pc' := 56) dX10_work_53 rfl rfl (fun c => ?_) (fun c => ?_)
      · have h := ht14 c
        refine e_r_aload_n (pc' := 65) (by decide) dX10_work_64 rfl rfl rfl ?_
        refine e_r_getr (k := 13) (q := 55) (pc' := 68) cl_10 rfl (Nat.le_of_ble_eq_true rfl) rfl rfl fl_RX10_93 rfl (Nat.le_of_ble_eq_true rfl) dX10_work_65 rfl ?_
        refine e_r_aload_n (pc' := 69) (by decide) dX10_work_68 rfl rfl rfl ?_
        refine e_r_getr (k := 8) (q := 36) (pc' := 72) cl_10 rfl (Nat.le_of_ble_eq_true rfl) rfl rfl fl_RX10_58 rfl (Nat.le_of_ble_eq_true rfl) dX10_work_69 rfl ?_
        obtain ⟨N16, he17, h⟩ := h
        refine e_r_callV (a := 55) (av := [.inr (.inr 36)]) (st := []) mqYX5_push ml_RX10_168 cl_5 rfl (Nat.le_of_ble_eq_true rfl) (by simp [e_cat]) rfl rfl rfl dX10_work_72 (pc' := 75) rfl he17 ⟨Nat.le_refl _, Nat.le_refl _⟩ hmo ?_
        refine e_r_aload_n (pc' := 76) (by decide) dX10_work_75 rfl rfl rfl ?_
        refine e_r_getr (k := 7) (q := 32) (pc' := 79) cl_10 rfl (Nat.le_of_ble_eq_true rfl) rfl rfl fl_RX10_49 rfl (Nat.le_of_ble_eq_true rfl) dX10_work_76 rfl ?_
        refine e_r_aload_n (pc' := 80) (by decide) dX10_work_79 rfl rfl rfl ?_
        refine e_r_getr (k := 8) (q := 36) (pc' := 83) cl_10 rfl (Nat.le_of_ble_eq_true rfl) rfl rfl fl_RX10_58 rfl (Nat.le_of_ble_eq_true rfl) dX10_work_80 rfl ?_
        obtain ⟨r19, N18, he20, h⟩ := h
        refine e_r_callV (a := 32) (av := [.inr (.inr 36)]) (st := []) mqYX4_runOn ml_RX10_171 cl_4 rfl (Nat.le_of_ble_eq_true rfl) (by simp [e_cat]) rfl rfl rfl dX10_work_83 (pc' := 86) rfl he20 ⟨Nat.le_refl _, Nat.le_refl _⟩ hmo ?_
        exact e_r_iret (ty := .int) rfl (e_nI _) dX10_work_86 h
      · have h := hf15 c
        refine e_r_aload_n (pc' := 57) (by decide) dX10_work_56 rfl rfl rfl ?_
        refine e_r_getr (k := 0) (q := 2) (pc' := 60) cl_10 rfl (Nat.le_of_ble_eq_true rfl) rfl rfl fl_RX10_10 rfl (Nat.le_of_ble_eq_true rfl) dX10_work_57 rfl ?_
        obtain ⟨r22, N21, he23, h⟩ := h
        refine e_r_callV (a := 2) (av := []) (st := []) mqYX7_flawAnswer ml_RX10_140 cl_7 rfl (Nat.le_of_ble_eq_true rfl) (by simp [e_cat]) rfl rfl rfl dX10_work_60 (pc' := 63) rfl he23 ⟨Nat.le_refl _, Nat.le_refl _⟩ hmo ?_
        exact e_r_iret (ty := .int) rfl (e_nI _) dX10_work_63 h
    · have h := hf8 c
      refine e_r_bipush (pc' := 30) dX10_work_28 rfl (by decide) ?_
      exact e_r_iret (ty := .int) rfl (e_nI _) dX10_work_30 h
  · exact e_r_callVx (a := 1) (av := [.inl p1, .inl 150]) (st := []) mqYX10_needText ml_RX10_125 cl_10 rfl (Nat.le_of_ble_eq_true rfl) (by simp [e_cat]) rfl rfl rfl dX10_work_5 rfl he2 ⟨Nat.le_refl _, Nat.le_succ _⟩ h
theorem wp_X10_book_0 {X : e_X} {d gn : Nat} {o : e_O} (M : e_M) (p1 : Int) (hmo : e_mn (557, gn, e_RF, M) o.2) (h : ((∃ N1 : e_M, e_E X d YX10_needText [.inr (.inr 1), .inl p1, .inl 60] (557, gn, e_RF, M) (.inl none, (557, gn, e_RF, N1)) ∧ (∃ N5 : e_M, e_E X d YX7_beginReading [.inr (.inr 2), .inl p1] (557, gn, e_RF, N1) (.inl none, (557, gn, e_RF, N5)) ∧ (∃ N7 : e_M, e_E X d YX0_readFrom [.inr (.inr 30), .inr (.inr 2), .inl (N5 4 0)] (557, gn, e_RF, N5) (.inl none, (557, gn, e_RF, N7)) ∧ (∃ (r10 : Int) (N9 : e_M), e_E X d YX7_flawed [.inr (.inr 2)] (557, gn, e_RF, N7) (.inl (some (.inl r10)), (557, gn, e_RF, N9)) ∧ ((r10 = 0 → (∃ N14 : e_M, e_E X d YX0_copyFrom [.inr (.inr 28), .inr (.inr 30)] (557, gn, e_RF, N9) (.inl none, (557, gn, e_RF, N14)) ∧ (o = (.inl (some (.inl (N14 28 0))), (557, gn, e_RF, N14))))) ∧ (¬ (r10 = 0) → (∃ (r17 : Int) (N16 : e_M), e_E X d YX7_flawAnswer [.inr (.inr 2)] (557, gn, e_RF, N9) (.inl (some (.inl r17)), (557, gn, e_RF, N16)) ∧ (o = (.inl (some (.inl r17)), (557, gn, e_RF, N16)))))))))) ∨ (∃ (z3 : Nat) (N4 : e_M), e_E X d YX10_needText [.inr (.inr 1), .inl p1, .inl 60] (557, gn, e_RF, M) (.inr z3, (557, gn + 1, e_RF, N4)) ∧ o = (.inr z3, (557, gn + 1, e_RF, N4))))) : e_G X (d + 1) YX10_book 0 [some (.inr (.inr 1)), some (.inl p1)] [] (557, gn, e_RF, M) o := by
  refine e_r_aload_n (pc' := 1) (by decide) dX10_book_0 rfl rfl rfl ?_
  refine e_r_iload_n (pc' := 2) dX10_book_1 rfl rfl rfl ?_
  refine e_r_bipush (pc' := 4) dX10_book_2 rfl (by decide) ?_
  rcases h with ⟨N1, he2, h⟩ | ⟨z3, N4, he2, h⟩
  · refine e_r_callV (a := 1) (av := [.inl p1, .inl 60]) (st := []) mqYX10_needText ml_RX10_125 cl_10 rfl (Nat.le_of_ble_eq_true rfl) (by simp [e_cat]) rfl rfl rfl dX10_book_4 (pc' := 7) rfl he2 ⟨Nat.le_refl _, Nat.le_refl _⟩ hmo ?_
    refine e_r_aload_n (pc' := 8) (by decide) dX10_book_7 rfl rfl rfl ?_
    refine e_r_getr (k := 0) (q := 2) (pc' := 11) cl_10 rfl (Nat.le_of_ble_eq_true rfl) rfl rfl fl_RX10_10 rfl (Nat.le_of_ble_eq_true rfl) dX10_book_8 rfl ?_
    refine e_r_iload_n (pc' := 12) dX10_book_11 rfl rfl rfl ?_
    obtain ⟨N5, he6, h⟩ := h
    refine e_r_callV (a := 2) (av := [.inl p1]) (st := []) mqYX7_beginReading ml_RX10_129 cl_7 rfl (Nat.le_of_ble_eq_true rfl) (by simp [e_cat]) rfl rfl rfl dX10_book_12 (pc' := 15) rfl he6 ⟨Nat.le_refl _, Nat.le_refl _⟩ hmo ?_
    refine e_r_aload_n (pc' := 16) (by decide) dX10_book_15 rfl rfl rfl ?_
    refine e_r_getr (k := 6) (q := 30) (pc' := 19) cl_10 rfl (Nat.le_of_ble_eq_true rfl) rfl rfl fl_RX10_43 rfl (Nat.le_of_ble_eq_true rfl) dX10_book_16 rfl ?_
    refine e_r_aload_n (pc' := 20) (by decide) dX10_book_19 rfl rfl rfl ?_
    refine e_r_getr (k := 0) (q := 2) (pc' := 23) cl_10 rfl (Nat.le_of_ble_eq_true rfl) rfl rfl fl_RX10_10 rfl (Nat.le_of_ble_eq_true rfl) dX10_book_20 rfl ?_
    refine e_r_aload_n (pc' := 24) (by decide) dX10_book_23 rfl rfl rfl ?_
    refine e_r_getr (k := 1) (q := 4) (pc' := 27) cl_10 rfl (Nat.le_of_ble_eq_true rfl) rfl rfl fl_RX10_19 rfl (Nat.le_of_ble_eq_true rfl) dX10_book_24 rfl ?_
    refine e_r_geti (k := 0) (pc' := 30) cl_8 rfl (Nat.le_of_ble_eq_true rfl) rfl rfl fl_RX10_155 dX10_book_27 rfl ?_
    obtain ⟨N7, he8, h⟩ := h
    refine e_r_callV (a := 30) (av := [.inr (.inr 2), .inl (N5 4 0)]) (st := []) mqYX0_readFrom ml_RX10_175 cl_0 rfl (Nat.le_of_ble_eq_true rfl) (by simp [e_cat]) rfl rfl rfl dX10_book_30 (pc' := 33) rfl he8 ⟨Nat.le_refl _, Nat.le_refl _⟩ hmo ?_
    refine e_r_aload_n (pc' := 34) (by decide) dX10_book_33 rfl rfl rfl ?_
    refine e_r_getr (k := 0) (q := 2) (pc' := 37) cl_10 rfl (Nat.le_of_ble_eq_true rfl) rfl rfl fl_RX10_10 rfl (Nat.le_of_ble_eq_true rfl) dX10_book_34 rfl ?_
    obtain ⟨r10, N9, he11, h⟩ := h
    refine e_r_callV (a := 2) (av := []) (st := []) mqYX7_flawed ml_RX10_136 cl_7 rfl (Nat.le_of_ble_eq_true rfl) (by simp [e_cat]) rfl rfl rfl dX10_book_37 (pc' := 40) rfl he11 ⟨Nat.le_refl _, Nat.le_refl _⟩ hmo ?_
    obtain ⟨ht12, hf13⟩ := h
    refine e_r_if_eq (tgt := 51) (pc' := 43) dX10_book_40 rfl rfl (fun c => ?_) (fun c => ?_)
    · have h := ht12 c
      refine e_r_aload_n (pc' := 52) (by decide) dX10_book_51 rfl rfl rfl ?_
      refine e_r_getr (k := 5) (q := 28) (pc' := 55) cl_10 rfl (Nat.le_of_ble_eq_true rfl) rfl rfl fl_RX10_39 rfl (Nat.le_of_ble_eq_true rfl) dX10_book_52 rfl ?_
      refine e_r_aload_n (pc' := 56) (by decide) dX10_book_55 rfl rfl rfl ?_
      refine e_r_getr (k := 6) (q := 30) (pc' := 59) cl_10 rfl (Nat.le_of_ble_eq_true rfl) rfl rfl fl_RX10_43 rfl (Nat.le_of_ble_eq_true rfl) dX10_book_56 rfl ?_
      obtain ⟨N14, he15, h⟩ := h
      refine e_r_callV (a := 28) (av := [.inr (.inr 30)]) (st := []) mqYX0_copyFrom ml_RX10_178 cl_0 rfl (Nat.le_of_ble_eq_true rfl) (by simp [e_cat]) rfl rfl rfl dX10_book_59 (pc' := 62) rfl he15 ⟨Nat.le_refl _, Nat.le_refl _⟩ hmo ?_
      refine e_r_aload_n (pc' := 63) (by decide) dX10_book_62 rfl rfl rfl ?_
      refine e_r_getr (k := 5) (q := 28) (pc' := 66) cl_10 rfl (Nat.le_of_ble_eq_true rfl) rfl rfl fl_RX10_39 rfl (Nat.le_of_ble_eq_true rfl) dX10_book_63 rfl ?_
      refine e_r_geti (k := 0) (pc' := 69) cl_0 rfl (Nat.le_of_ble_eq_true rfl) rfl rfl fl_RX10_181 dX10_book_66 rfl ?_
      exact e_r_iret (ty := .int) rfl (e_nI _) dX10_book_69 h
    · have h := hf13 c
      refine e_r_aload_n (pc' := 44) (by decide) dX10_book_43 rfl rfl rfl ?_
      refine e_r_getr (k := 0) (q := 2) (pc' := 47) cl_10 rfl (Nat.le_of_ble_eq_true rfl) rfl rfl fl_RX10_10 rfl (Nat.le_of_ble_eq_true rfl) dX10_book_44 rfl ?_
      obtain ⟨r17, N16, he18, h⟩ := h
      refine e_r_callV (a := 2) (av := []) (st := []) mqYX7_flawAnswer ml_RX10_140 cl_7 rfl (Nat.le_of_ble_eq_true rfl) (by simp [e_cat]) rfl rfl rfl dX10_book_47 (pc' := 50) rfl he18 ⟨Nat.le_refl _, Nat.le_refl _⟩ hmo ?_
      exact e_r_iret (ty := .int) rfl (e_nI _) dX10_book_50 h
  · exact e_r_callVx (a := 1) (av := [.inl p1, .inl 60]) (st := []) mqYX10_needText ml_RX10_125 cl_10 rfl (Nat.le_of_ble_eq_true rfl) (by simp [e_cat]) rfl rfl rfl dX10_book_4 rfl he2 ⟨Nat.le_refl _, Nat.le_succ _⟩ h
theorem wp_X10_fault_0 {X : e_X} {d gn : Nat} {o : e_O} (M : e_M) (h : (o = (.inl (some (.inl (M 2 5))), (557, gn, e_RF, M)))) : e_G X d YX10_fault 0 [some (.inr (.inr 1))] [] (557, gn, e_RF, M) o := by
  refine e_r_aload_n (pc' := 1) (by decide) dX10_fault_0 rfl rfl rfl ?_
  refine e_r_getr (k := 0) (q := 2) (pc' := 4) cl_10 rfl (Nat.le_of_ble_eq_true rfl) rfl rfl fl_RX10_10 rfl (Nat.le_of_ble_eq_true rfl) dX10_fault_1 rfl ?_
  refine e_r_geti (k := 5) (pc' := 7) cl_7 rfl (Nat.le_of_ble_eq_true rfl) rfl rfl fl_RX10_184 dX10_fault_4 rfl ?_
  exact e_r_iret (ty := .int) rfl (e_nI _) dX10_fault_7 h
theorem wp_X10_undo_0 {X : e_X} {d gn : Nat} {o : e_O} (M : e_M) (hmo : e_mn (557, gn, e_RF, M) o.2) (h : (∃ (r2 : Int) (N1 : e_M), e_E X d YX5_popInto [.inr (.inr 55), .inr (.inr 36)] (557, gn, e_RF, M) (.inl (some (.inl r2)), (557, gn, e_RF, N1)) ∧ ((¬ r2 = 0 → (∃ N6 : e_M, e_E X d YX4_forgetRefused [.inr (.inr 32)] (557, gn, e_RF, N1) (.inl none, (557, gn, e_RF, N6)) ∧ (o = (.inl (some (.inl (N6 55 1))), (557, gn, e_RF, N6))))) ∧ (r2 = 0 → (o = (.inl (some (.inl (-1))), (557, gn, e_RF, N1))))))) : e_G X (d + 1) YX10_undo 0 [some (.inr (.inr 1))] [] (557, gn, e_RF, M) o := by
  refine e_r_aload_n (pc' := 1) (by decide) dX10_undo_0 rfl rfl rfl ?_
  refine e_r_getr (k := 13) (q := 55) (pc' := 4) cl_10 rfl (Nat.le_of_ble_eq_true rfl) rfl rfl fl_RX10_93 rfl (Nat.le_of_ble_eq_true rfl) dX10_undo_1 rfl ?_
  refine e_r_aload_n (pc' := 5) (by decide) dX10_undo_4 rfl rfl rfl ?_
  refine e_r_getr (k := 8) (q := 36) (pc' := 8) cl_10 rfl (Nat.le_of_ble_eq_true rfl) rfl rfl fl_RX10_58 rfl (Nat.le_of_ble_eq_true rfl) dX10_undo_5 rfl ?_
  obtain ⟨r2, N1, he3, h⟩ := h
  refine e_r_callV (a := 55) (av := [.inr (.inr 36)]) (st := []) mqYX5_popInto ml_RX10_187 cl_5 rfl (Nat.le_of_ble_eq_true rfl) (by simp [e_cat]) rfl rfl rfl dX10_undo_8 (pc' := 11) rfl he3 ⟨Nat.le_refl _, Nat.le_refl _⟩ hmo ?_
  obtain ⟨ht4, hf5⟩ := h
  refine e_r_if_ne (tgt := 16) (pc' := 14) dX10_undo_11 rfl rfl (fun c => ?_) (fun c => ?_)
  · have h := ht4 c
    refine e_r_aload_n (pc' := 17) (by decide) dX10_undo_16 rfl rfl rfl ?_
    refine e_r_getr (k := 7) (q := 32) (pc' := 20) cl_10 rfl (Nat.le_of_ble_eq_true rfl) rfl rfl fl_RX10_49 rfl (Nat.le_of_ble_eq_true rfl) dX10_undo_17 rfl ?_
    obtain ⟨N6, he7, h⟩ := h
    refine e_r_callV (a := 32) (av := []) (st := []) mqYX4_forgetRefused ml_RX10_151 cl_4 rfl (Nat.le_of_ble_eq_true rfl) (by simp [e_cat]) rfl rfl rfl dX10_undo_20 (pc' := 23) rfl he7 ⟨Nat.le_refl _, Nat.le_refl _⟩ hmo ?_
    refine e_r_aload_n (pc' := 24) (by decide) dX10_undo_23 rfl rfl rfl ?_
    refine e_r_getr (k := 13) (q := 55) (pc' := 27) cl_10 rfl (Nat.le_of_ble_eq_true rfl) rfl rfl fl_RX10_93 rfl (Nat.le_of_ble_eq_true rfl) dX10_undo_24 rfl ?_
    refine e_r_geti (k := 1) (pc' := 30) cl_5 rfl (Nat.le_of_ble_eq_true rfl) rfl rfl fl_RX10_162 dX10_undo_27 rfl ?_
    exact e_r_iret (ty := .int) rfl (e_nI _) dX10_undo_30 h
  · have h := hf5 c
    refine e_r_iconst (pc' := 15) dX10_undo_14 rfl (by decide) ?_
    exact e_r_iret (ty := .int) rfl (e_nI _) dX10_undo_15 h
theorem wp_X10_told_0 {X : e_X} {d gn : Nat} {o : e_O} (M : e_M) (p1 : Int) (hmo : e_mn (557, gn, e_RF, M) o.2) (h : ((∃ N1 : e_M, e_E X d YX10_needWithin [.inr (.inr 1), .inl p1, .inl 0, .inl 10] (557, gn, e_RF, M) (.inl none, (557, gn, e_RF, N1)) ∧ ((p1 = 0 → (o = (.inl (some (.inl (N1 4 0))), (557, gn, e_RF, N1)))) ∧ (p1 = 1 → (o = (.inl (some (.inl (N1 4 1))), (557, gn, e_RF, N1)))) ∧ (p1 = 2 → (o = (.inl (some (.inl (N1 4 2))), (557, gn, e_RF, N1)))) ∧ (p1 = 3 → (o = (.inl (some (.inl (N1 36 2))), (557, gn, e_RF, N1)))) ∧ (p1 = 4 → (∃ (r17 : Int) (N16 : e_M), e_E X d YX3_boughtBits [.inr (.inr 36)] (557, gn, e_RF, N1) (.inl (some (.inl r17)), (557, gn, e_RF, N16)) ∧ (o = (.inl (some (.inl r17)), (557, gn, e_RF, N16))))) ∧ (p1 = 5 → (o = (.inl (some (.inl (N1 36 4))), (557, gn, e_RF, N1)))) ∧ (p1 = 6 → (o = (.inl (some (.inl (N1 36 3))), (557, gn, e_RF, N1)))) ∧ (p1 = 7 → (∃ (r20 : Int) (N19 : e_M), e_E X d YX3_coinsOfAll [.inr (.inr 36)] (557, gn, e_RF, N1) (.inl (some (.inl r20)), (557, gn, e_RF, N19)) ∧ (o = (.inl (some (.inl r20)), (557, gn, e_RF, N19))))) ∧ (p1 = 8 → (∃ (r23 : Int) (N22 : e_M), e_E X d YX3_daysOfAll [.inr (.inr 36)] (557, gn, e_RF, N1) (.inl (some (.inl r23)), (557, gn, e_RF, N22)) ∧ (o = (.inl (some (.inl r23)), (557, gn, e_RF, N22))))) ∧ (p1 = 9 → (o = (.inl (some (.inl (N1 28 0))), (557, gn, e_RF, N1)))) ∧ (p1 < 0 ∨ 9 < p1 → (o = (.inl (some (.inl (N1 32 6))), (557, gn, e_RF, N1)))))) ∨ (∃ (z3 : Nat) (N4 : e_M), e_E X d YX10_needWithin [.inr (.inr 1), .inl p1, .inl 0, .inl 10] (557, gn, e_RF, M) (.inr z3, (557, gn + 1, e_RF, N4)) ∧ o = (.inr z3, (557, gn + 1, e_RF, N4))))) : e_G X (d + 1) YX10_told 0 [some (.inr (.inr 1)), some (.inl p1)] [] (557, gn, e_RF, M) o := by
  refine e_r_aload_n (pc' := 1) (by decide) dX10_told_0 rfl rfl rfl ?_
  refine e_r_iload_n (pc' := 2) dX10_told_1 rfl rfl rfl ?_
  refine e_r_iconst (pc' := 3) dX10_told_2 rfl (by decide) ?_
  refine e_r_bipush (pc' := 5) dX10_told_3 rfl (by decide) ?_
  rcases h with ⟨N1, he2, h⟩ | ⟨z3, N4, he2, h⟩
  · refine e_r_callV (a := 1) (av := [.inl p1, .inl 0, .inl 10]) (st := []) mqYX10_needWithin ml_RX10_191 cl_10 rfl (Nat.le_of_ble_eq_true rfl) (by simp [e_cat]) rfl rfl rfl dX10_told_5 (pc' := 8) rfl he2 ⟨Nat.le_refl _, Nat.le_refl _⟩ hmo ?_
    refine e_r_iload_n (pc' := 9) dX10_told_8 rfl rfl rfl ?_
    obtain ⟨hk5, hk6, hk7, hk8, hk9, hk10, hk11, hk12, hk13, hk14, hd15⟩ := h
    refine e_r_table (tgt := 144) dX10_told_9 rfl (fun j => bif Nat.beq j 0 then 64 else bif Nat.beq j 1 then 72 else bif Nat.beq j 2 then 80 else bif Nat.beq j 3 then 88 else bif Nat.beq j 4 then 96 else bif Nat.beq j 5 then 104 else bif Nat.beq j 6 then 112 else bif Nat.beq j 7 then 120 else bif Nat.beq j 8 then 128 else 136) (fun j hj => ?_) (fun j ej hj => ?_) (fun c => ?_)
    · rcases (show j = 0 ∨ j = 1 ∨ j = 2 ∨ j = 3 ∨ j = 4 ∨ j = 5 ∨ j = 6 ∨ j = 7 ∨ j = 8 ∨ j = 9 by omega) with rfl | rfl | rfl | rfl | rfl | rfl | rfl | rfl | rfl | rfl
      · exact ⟨55, rfl, rfl⟩
      · exact ⟨63, rfl, rfl⟩
      · exact ⟨71, rfl, rfl⟩
      · exact ⟨79, rfl, rfl⟩
      · exact ⟨87, rfl, rfl⟩
      · exact ⟨95, rfl, rfl⟩
      · exact ⟨103, rfl, rfl⟩
      · exact ⟨111, rfl, rfl⟩
      · exact ⟨119, rfl, rfl⟩
      · exact ⟨127, rfl, rfl⟩
    · rcases (show j = 0 ∨ j = 1 ∨ j = 2 ∨ j = 3 ∨ j = 4 ∨ j = 5 ∨ j = 6 ∨ j = 7 ∨ j = 8 ∨ j = 9 by omega) with rfl | rfl | rfl | rfl | rfl | rfl | rfl | rfl | rfl | rfl
      · have h := hk5 (by omega)
        show e_G X (d + 1) YX10_told 64 [some (.inr (.inr 1)), some (.inl p1)] [] (557, gn, e_RF, N1) o
        refine e_r_aload_n (pc' := 65) (by decide) dX10_told_64 rfl rfl rfl ?_
        refine e_r_getr (k := 1) (q := 4) (pc' := 68) cl_10 rfl (Nat.le_of_ble_eq_true rfl) rfl rfl fl_RX10_19 rfl (Nat.le_of_ble_eq_true rfl) dX10_told_65 rfl ?_
        refine e_r_geti (k := 0) (pc' := 71) cl_8 rfl (Nat.le_of_ble_eq_true rfl) rfl rfl fl_RX10_155 dX10_told_68 rfl ?_
        exact e_r_iret (ty := .int) rfl (e_nI _) dX10_told_71 h
      · have h := hk6 (by omega)
        show e_G X (d + 1) YX10_told 72 [some (.inr (.inr 1)), some (.inl p1)] [] (557, gn, e_RF, N1) o
        refine e_r_aload_n (pc' := 73) (by decide) dX10_told_72 rfl rfl rfl ?_
        refine e_r_getr (k := 1) (q := 4) (pc' := 76) cl_10 rfl (Nat.le_of_ble_eq_true rfl) rfl rfl fl_RX10_19 rfl (Nat.le_of_ble_eq_true rfl) dX10_told_73 rfl ?_
        refine e_r_geti (k := 1) (pc' := 79) cl_8 rfl (Nat.le_of_ble_eq_true rfl) rfl rfl fl_RX10_195 dX10_told_76 rfl ?_
        exact e_r_iret (ty := .int) rfl (e_nI _) dX10_told_79 h
      · have h := hk7 (by omega)
        show e_G X (d + 1) YX10_told 80 [some (.inr (.inr 1)), some (.inl p1)] [] (557, gn, e_RF, N1) o
        refine e_r_aload_n (pc' := 81) (by decide) dX10_told_80 rfl rfl rfl ?_
        refine e_r_getr (k := 1) (q := 4) (pc' := 84) cl_10 rfl (Nat.le_of_ble_eq_true rfl) rfl rfl fl_RX10_19 rfl (Nat.le_of_ble_eq_true rfl) dX10_told_81 rfl ?_
        refine e_r_geti (k := 2) (pc' := 87) cl_8 rfl (Nat.le_of_ble_eq_true rfl) rfl rfl fl_RX10_198 dX10_told_84 rfl ?_
        exact e_r_iret (ty := .int) rfl (e_nI _) dX10_told_87 h
      · have h := hk8 (by omega)
        show e_G X (d + 1) YX10_told 88 [some (.inr (.inr 1)), some (.inl p1)] [] (557, gn, e_RF, N1) o
        refine e_r_aload_n (pc' := 89) (by decide) dX10_told_88 rfl rfl rfl ?_
        refine e_r_getr (k := 8) (q := 36) (pc' := 92) cl_10 rfl (Nat.le_of_ble_eq_true rfl) rfl rfl fl_RX10_58 rfl (Nat.le_of_ble_eq_true rfl) dX10_told_89 rfl ?_
        refine e_r_geti (k := 2) (pc' := 95) cl_3 rfl (Nat.le_of_ble_eq_true rfl) rfl rfl fl_RX10_201 dX10_told_92 rfl ?_
        exact e_r_iret (ty := .int) rfl (e_nI _) dX10_told_95 h
      · have h := hk9 (by omega)
        show e_G X (d + 1) YX10_told 96 [some (.inr (.inr 1)), some (.inl p1)] [] (557, gn, e_RF, N1) o
        refine e_r_aload_n (pc' := 97) (by decide) dX10_told_96 rfl rfl rfl ?_
        refine e_r_getr (k := 8) (q := 36) (pc' := 100) cl_10 rfl (Nat.le_of_ble_eq_true rfl) rfl rfl fl_RX10_58 rfl (Nat.le_of_ble_eq_true rfl) dX10_told_97 rfl ?_
        obtain ⟨r17, N16, he18, h⟩ := h
        refine e_r_callV (a := 36) (av := []) (st := []) mqYX3_boughtBits ml_RX10_204 cl_3 rfl (Nat.le_of_ble_eq_true rfl) (by simp [e_cat]) rfl rfl rfl dX10_told_100 (pc' := 103) rfl he18 ⟨Nat.le_refl _, Nat.le_refl _⟩ hmo ?_
        exact e_r_iret (ty := .int) rfl (e_nI _) dX10_told_103 h
      · have h := hk10 (by omega)
        show e_G X (d + 1) YX10_told 104 [some (.inr (.inr 1)), some (.inl p1)] [] (557, gn, e_RF, N1) o
        refine e_r_aload_n (pc' := 105) (by decide) dX10_told_104 rfl rfl rfl ?_
        refine e_r_getr (k := 8) (q := 36) (pc' := 108) cl_10 rfl (Nat.le_of_ble_eq_true rfl) rfl rfl fl_RX10_58 rfl (Nat.le_of_ble_eq_true rfl) dX10_told_105 rfl ?_
        refine e_r_geti (k := 4) (pc' := 111) cl_3 rfl (Nat.le_of_ble_eq_true rfl) rfl rfl fl_RX10_207 dX10_told_108 rfl ?_
        exact e_r_iret (ty := .int) rfl (e_nI _) dX10_told_111 h
      · have h := hk11 (by omega)
        show e_G X (d + 1) YX10_told 112 [some (.inr (.inr 1)), some (.inl p1)] [] (557, gn, e_RF, N1) o
        refine e_r_aload_n (pc' := 113) (by decide) dX10_told_112 rfl rfl rfl ?_
        refine e_r_getr (k := 8) (q := 36) (pc' := 116) cl_10 rfl (Nat.le_of_ble_eq_true rfl) rfl rfl fl_RX10_58 rfl (Nat.le_of_ble_eq_true rfl) dX10_told_113 rfl ?_
        refine e_r_geti (k := 3) (pc' := 119) cl_3 rfl (Nat.le_of_ble_eq_true rfl) rfl rfl fl_RX10_210 dX10_told_116 rfl ?_
        exact e_r_iret (ty := .int) rfl (e_nI _) dX10_told_119 h
      · have h := hk12 (by omega)
        show e_G X (d + 1) YX10_told 120 [some (.inr (.inr 1)), some (.inl p1)] [] (557, gn, e_RF, N1) o
        refine e_r_aload_n (pc' := 121) (by decide) dX10_told_120 rfl rfl rfl ?_
        refine e_r_getr (k := 8) (q := 36) (pc' := 124) cl_10 rfl (Nat.le_of_ble_eq_true rfl) rfl rfl fl_RX10_58 rfl (Nat.le_of_ble_eq_true rfl) dX10_told_121 rfl ?_
        obtain ⟨r20, N19, he21, h⟩ := h
        refine e_r_callV (a := 36) (av := []) (st := []) mqYX3_coinsOfAll ml_RX10_213 cl_3 rfl (Nat.le_of_ble_eq_true rfl) (by simp [e_cat]) rfl rfl rfl dX10_told_124 (pc' := 127) rfl he21 ⟨Nat.le_refl _, Nat.le_refl _⟩ hmo ?_
        exact e_r_iret (ty := .int) rfl (e_nI _) dX10_told_127 h
      · have h := hk13 (by omega)
        show e_G X (d + 1) YX10_told 128 [some (.inr (.inr 1)), some (.inl p1)] [] (557, gn, e_RF, N1) o
        refine e_r_aload_n (pc' := 129) (by decide) dX10_told_128 rfl rfl rfl ?_
        refine e_r_getr (k := 8) (q := 36) (pc' := 132) cl_10 rfl (Nat.le_of_ble_eq_true rfl) rfl rfl fl_RX10_58 rfl (Nat.le_of_ble_eq_true rfl) dX10_told_129 rfl ?_
        obtain ⟨r23, N22, he24, h⟩ := h
        refine e_r_callV (a := 36) (av := []) (st := []) mqYX3_daysOfAll ml_RX10_216 cl_3 rfl (Nat.le_of_ble_eq_true rfl) (by simp [e_cat]) rfl rfl rfl dX10_told_132 (pc' := 135) rfl he24 ⟨Nat.le_refl _, Nat.le_refl _⟩ hmo ?_
        exact e_r_iret (ty := .int) rfl (e_nI _) dX10_told_135 h
      · have h := hk14 (by omega)
        show e_G X (d + 1) YX10_told 136 [some (.inr (.inr 1)), some (.inl p1)] [] (557, gn, e_RF, N1) o
        refine e_r_aload_n (pc' := 137) (by decide) dX10_told_136 rfl rfl rfl ?_
        refine e_r_getr (k := 5) (q := 28) (pc' := 140) cl_10 rfl (Nat.le_of_ble_eq_true rfl) rfl rfl fl_RX10_39 rfl (Nat.le_of_ble_eq_true rfl) dX10_told_137 rfl ?_
        refine e_r_geti (k := 0) (pc' := 143) cl_0 rfl (Nat.le_of_ble_eq_true rfl) rfl rfl fl_RX10_181 dX10_told_140 rfl ?_
        exact e_r_iret (ty := .int) rfl (e_nI _) dX10_told_143 h
    · have h := hd15 c
      refine e_r_aload_n (pc' := 145) (by decide) dX10_told_144 rfl rfl rfl ?_
      refine e_r_getr (k := 7) (q := 32) (pc' := 148) cl_10 rfl (Nat.le_of_ble_eq_true rfl) rfl rfl fl_RX10_49 rfl (Nat.le_of_ble_eq_true rfl) dX10_told_145 rfl ?_
      refine e_r_geti (k := 6) (pc' := 151) cl_4 rfl (Nat.le_of_ble_eq_true rfl) rfl rfl fl_RX10_219 dX10_told_148 rfl ?_
      exact e_r_iret (ty := .int) rfl (e_nI _) dX10_told_151 h
  · exact e_r_callVx (a := 1) (av := [.inl p1, .inl 0, .inl 10]) (st := []) mqYX10_needWithin ml_RX10_191 cl_10 rfl (Nat.le_of_ble_eq_true rfl) (by simp [e_cat]) rfl rfl rfl dX10_told_5 rfl he2 ⟨Nat.le_refl _, Nat.le_succ _⟩ h
theorem wp_X10_person_0 {X : e_X} {d gn : Nat} {o : e_O} (M : e_M) (p1 p2 : Int) (hmo : e_mn (557, gn, e_RF, M) o.2) (h : ((∃ N1 : e_M, e_E X d YX10_needPerson [.inr (.inr 1), .inl p1] (557, gn, e_RF, M) (.inl none, (557, gn, e_RF, N1)) ∧ ((∃ N5 : e_M, e_E X d YX10_needWithin [.inr (.inr 1), .inl p2, .inl 0, .inl 6] (557, gn, e_RF, N1) (.inl none, (557, gn, e_RF, N5)) ∧ ((p2 = 0 → ((0 ≤ p1 ∧ p1 < 6) ∧ (o = (.inl (some (.inl (N5 37 p1.toNat))), (557, gn, e_RF, N5))))) ∧ (p2 = 1 → ((0 ≤ p1 ∧ p1 < 6) ∧ (o = (.inl (some (.inl (N5 6 p1.toNat))), (557, gn, e_RF, N5))))) ∧ (p2 = 2 → ((0 ≤ p1 ∧ p1 < 6) ∧ (o = (.inl (some (.inl (N5 38 p1.toNat))), (557, gn, e_RF, N5))))) ∧ (p2 = 3 → ((0 ≤ p1 ∧ p1 < 6) ∧ (o = (.inl (some (.inl (N5 39 p1.toNat))), (557, gn, e_RF, N5))))) ∧ (p2 = 4 → ((0 ≤ p1 ∧ p1 < 6) ∧ (o = (.inl (some (.inl (N5 7 p1.toNat))), (557, gn, e_RF, N5))))) ∧ (p2 = 5 → ((0 ≤ p1 ∧ p1 < 6) ∧ (o = (.inl (some (.inl (N5 40 p1.toNat))), (557, gn, e_RF, N5))))) ∧ (p2 < 0 ∨ 5 < p2 → ((0 ≤ p1 ∧ p1 < 6) ∧ (o = (.inl (some (.inl (N5 41 p1.toNat))), (557, gn, e_RF, N5))))))) ∨ (∃ (z7 : Nat) (N8 : e_M), e_E X d YX10_needWithin [.inr (.inr 1), .inl p2, .inl 0, .inl 6] (557, gn, e_RF, N1) (.inr z7, (557, gn + 1, e_RF, N8)) ∧ o = (.inr z7, (557, gn + 1, e_RF, N8))))) ∨ (∃ (z3 : Nat) (N4 : e_M), e_E X d YX10_needPerson [.inr (.inr 1), .inl p1] (557, gn, e_RF, M) (.inr z3, (557, gn + 1, e_RF, N4)) ∧ o = (.inr z3, (557, gn + 1, e_RF, N4))))) : e_G X (d + 1) YX10_person 0 [some (.inr (.inr 1)), some (.inl p1), some (.inl p2)] [] (557, gn, e_RF, M) o := by
  refine e_r_aload_n (pc' := 1) (by decide) dX10_person_0 rfl rfl rfl ?_
  refine e_r_iload_n (pc' := 2) dX10_person_1 rfl rfl rfl ?_
  rcases h with ⟨N1, he2, h⟩ | ⟨z3, N4, he2, h⟩
  · refine e_r_callV (a := 1) (av := [.inl p1]) (st := []) mqYX10_needPerson ml_RX10_222 cl_10 rfl (Nat.le_of_ble_eq_true rfl) (by simp [e_cat]) rfl rfl rfl dX10_person_2 (pc' := 5) rfl he2 ⟨Nat.le_refl _, Nat.le_refl _⟩ hmo ?_
    refine e_r_aload_n (pc' := 6) (by decide) dX10_person_5 rfl rfl rfl ?_
    refine e_r_iload_n (pc' := 7) dX10_person_6 rfl rfl rfl ?_
    refine e_r_iconst (pc' := 8) dX10_person_7 rfl (by decide) ?_
    refine e_r_bipush (pc' := 10) dX10_person_8 rfl (by decide) ?_
    rcases h with ⟨N5, he6, h⟩ | ⟨z7, N8, he6, h⟩
    · refine e_r_callV (a := 1) (av := [.inl p2, .inl 0, .inl 6]) (st := []) mqYX10_needWithin ml_RX10_191 cl_10 rfl (Nat.le_of_ble_eq_true rfl) (by simp [e_cat]) rfl rfl rfl dX10_person_10 (pc' := 13) rfl he6 ⟨Nat.le_refl _, Nat.le_refl _⟩ hmo ?_
      refine e_r_iload_n (pc' := 14) dX10_person_13 rfl rfl rfl ?_
      obtain ⟨hk9, hk10, hk11, hk12, hk13, hk14, hd15⟩ := h
      refine e_r_table (tgt := 112) dX10_person_14 rfl (fun j => bif Nat.beq j 0 then 52 else bif Nat.beq j 1 then 62 else bif Nat.beq j 2 then 72 else bif Nat.beq j 3 then 82 else bif Nat.beq j 4 then 92 else 102) (fun j hj => ?_) (fun j ej hj => ?_) (fun c => ?_)
      · rcases (show j = 0 ∨ j = 1 ∨ j = 2 ∨ j = 3 ∨ j = 4 ∨ j = 5 by omega) with rfl | rfl | rfl | rfl | rfl | rfl
        · exact ⟨38, rfl, rfl⟩
        · exact ⟨48, rfl, rfl⟩
        · exact ⟨58, rfl, rfl⟩
        · exact ⟨68, rfl, rfl⟩
        · exact ⟨78, rfl, rfl⟩
        · exact ⟨88, rfl, rfl⟩
      · rcases (show j = 0 ∨ j = 1 ∨ j = 2 ∨ j = 3 ∨ j = 4 ∨ j = 5 by omega) with rfl | rfl | rfl | rfl | rfl | rfl
        · have h := hk9 (by omega)
          show e_G X (d + 1) YX10_person 52 [some (.inr (.inr 1)), some (.inl p1), some (.inl p2)] [] (557, gn, e_RF, N5) o
          refine e_r_aload_n (pc' := 53) (by decide) dX10_person_52 rfl rfl rfl ?_
          refine e_r_getr (k := 8) (q := 36) (pc' := 56) cl_10 rfl (Nat.le_of_ble_eq_true rfl) rfl rfl fl_RX10_58 rfl (Nat.le_of_ble_eq_true rfl) dX10_person_53 rfl ?_
          refine e_r_getr (k := 5) (q := 37) (pc' := 59) cl_3 rfl (Nat.le_of_ble_eq_true rfl) rfl rfl fl_RX10_225 rfl (Nat.le_of_ble_eq_true rfl) dX10_person_56 rfl ?_
          refine e_r_iload_n (pc' := 60) dX10_person_59 rfl rfl rfl ?_
          obtain ⟨hb16, h⟩ := h
          refine e_r_iald (j9 := p1.toNat) (pc' := 61) rfl (Nat.le_of_ble_eq_true rfl) hb16.1 hb16.2 rfl dX10_person_60 rfl ?_
          exact e_r_iret (ty := .int) rfl (e_nI _) dX10_person_61 h
        · have h := hk10 (by omega)
          show e_G X (d + 1) YX10_person 62 [some (.inr (.inr 1)), some (.inl p1), some (.inl p2)] [] (557, gn, e_RF, N5) o
          refine e_r_aload_n (pc' := 63) (by decide) dX10_person_62 rfl rfl rfl ?_
          refine e_r_getr (k := 1) (q := 4) (pc' := 66) cl_10 rfl (Nat.le_of_ble_eq_true rfl) rfl rfl fl_RX10_19 rfl (Nat.le_of_ble_eq_true rfl) dX10_person_63 rfl ?_
          refine e_r_getr (k := 4) (q := 6) (pc' := 69) cl_8 rfl (Nat.le_of_ble_eq_true rfl) rfl rfl fl_RX10_229 rfl (Nat.le_of_ble_eq_true rfl) dX10_person_66 rfl ?_
          refine e_r_iload_n (pc' := 70) dX10_person_69 rfl rfl rfl ?_
          obtain ⟨hb17, h⟩ := h
          refine e_r_iald (j9 := p1.toNat) (pc' := 71) rfl (Nat.le_of_ble_eq_true rfl) hb17.1 hb17.2 rfl dX10_person_70 rfl ?_
          exact e_r_iret (ty := .int) rfl (e_nI _) dX10_person_71 h
        · have h := hk11 (by omega)
          show e_G X (d + 1) YX10_person 72 [some (.inr (.inr 1)), some (.inl p1), some (.inl p2)] [] (557, gn, e_RF, N5) o
          refine e_r_aload_n (pc' := 73) (by decide) dX10_person_72 rfl rfl rfl ?_
          refine e_r_getr (k := 8) (q := 36) (pc' := 76) cl_10 rfl (Nat.le_of_ble_eq_true rfl) rfl rfl fl_RX10_58 rfl (Nat.le_of_ble_eq_true rfl) dX10_person_73 rfl ?_
          refine e_r_getr (k := 6) (q := 38) (pc' := 79) cl_3 rfl (Nat.le_of_ble_eq_true rfl) rfl rfl fl_RX10_232 rfl (Nat.le_of_ble_eq_true rfl) dX10_person_76 rfl ?_
          refine e_r_iload_n (pc' := 80) dX10_person_79 rfl rfl rfl ?_
          obtain ⟨hb18, h⟩ := h
          refine e_r_iald (j9 := p1.toNat) (pc' := 81) rfl (Nat.le_of_ble_eq_true rfl) hb18.1 hb18.2 rfl dX10_person_80 rfl ?_
          exact e_r_iret (ty := .int) rfl (e_nI _) dX10_person_81 h
        · have h := hk12 (by omega)
          show e_G X (d + 1) YX10_person 82 [some (.inr (.inr 1)), some (.inl p1), some (.inl p2)] [] (557, gn, e_RF, N5) o
          refine e_r_aload_n (pc' := 83) (by decide) dX10_person_82 rfl rfl rfl ?_
          refine e_r_getr (k := 8) (q := 36) (pc' := 86) cl_10 rfl (Nat.le_of_ble_eq_true rfl) rfl rfl fl_RX10_58 rfl (Nat.le_of_ble_eq_true rfl) dX10_person_83 rfl ?_
          refine e_r_getr (k := 7) (q := 39) (pc' := 89) cl_3 rfl (Nat.le_of_ble_eq_true rfl) rfl rfl fl_RX10_235 rfl (Nat.le_of_ble_eq_true rfl) dX10_person_86 rfl ?_
          refine e_r_iload_n (pc' := 90) dX10_person_89 rfl rfl rfl ?_
          obtain ⟨hb19, h⟩ := h
          refine e_r_iald (j9 := p1.toNat) (pc' := 91) rfl (Nat.le_of_ble_eq_true rfl) hb19.1 hb19.2 rfl dX10_person_90 rfl ?_
          exact e_r_iret (ty := .int) rfl (e_nI _) dX10_person_91 h
        · have h := hk13 (by omega)
          show e_G X (d + 1) YX10_person 92 [some (.inr (.inr 1)), some (.inl p1), some (.inl p2)] [] (557, gn, e_RF, N5) o
          refine e_r_aload_n (pc' := 93) (by decide) dX10_person_92 rfl rfl rfl ?_
          refine e_r_getr (k := 1) (q := 4) (pc' := 96) cl_10 rfl (Nat.le_of_ble_eq_true rfl) rfl rfl fl_RX10_19 rfl (Nat.le_of_ble_eq_true rfl) dX10_person_93 rfl ?_
          refine e_r_getr (k := 5) (q := 7) (pc' := 99) cl_8 rfl (Nat.le_of_ble_eq_true rfl) rfl rfl fl_RX10_238 rfl (Nat.le_of_ble_eq_true rfl) dX10_person_96 rfl ?_
          refine e_r_iload_n (pc' := 100) dX10_person_99 rfl rfl rfl ?_
          obtain ⟨hb20, h⟩ := h
          refine e_r_iald (j9 := p1.toNat) (pc' := 101) rfl (Nat.le_of_ble_eq_true rfl) hb20.1 hb20.2 rfl dX10_person_100 rfl ?_
          exact e_r_iret (ty := .int) rfl (e_nI _) dX10_person_101 h
        · have h := hk14 (by omega)
          show e_G X (d + 1) YX10_person 102 [some (.inr (.inr 1)), some (.inl p1), some (.inl p2)] [] (557, gn, e_RF, N5) o
          refine e_r_aload_n (pc' := 103) (by decide) dX10_person_102 rfl rfl rfl ?_
          refine e_r_getr (k := 8) (q := 36) (pc' := 106) cl_10 rfl (Nat.le_of_ble_eq_true rfl) rfl rfl fl_RX10_58 rfl (Nat.le_of_ble_eq_true rfl) dX10_person_103 rfl ?_
          refine e_r_getr (k := 8) (q := 40) (pc' := 109) cl_3 rfl (Nat.le_of_ble_eq_true rfl) rfl rfl fl_RX10_241 rfl (Nat.le_of_ble_eq_true rfl) dX10_person_106 rfl ?_
          refine e_r_iload_n (pc' := 110) dX10_person_109 rfl rfl rfl ?_
          obtain ⟨hb21, h⟩ := h
          refine e_r_iald (j9 := p1.toNat) (pc' := 111) rfl (Nat.le_of_ble_eq_true rfl) hb21.1 hb21.2 rfl dX10_person_110 rfl ?_
          exact e_r_iret (ty := .int) rfl (e_nI _) dX10_person_111 h
      · have h := hd15 c
        refine e_r_aload_n (pc' := 113) (by decide) dX10_person_112 rfl rfl rfl ?_
        refine e_r_getr (k := 8) (q := 36) (pc' := 116) cl_10 rfl (Nat.le_of_ble_eq_true rfl) rfl rfl fl_RX10_58 rfl (Nat.le_of_ble_eq_true rfl) dX10_person_113 rfl ?_
        refine e_r_getr (k := 9) (q := 41) (pc' := 119) cl_3 rfl (Nat.le_of_ble_eq_true rfl) rfl rfl fl_RX10_244 rfl (Nat.le_of_ble_eq_true rfl) dX10_person_116 rfl ?_
        refine e_r_iload_n (pc' := 120) dX10_person_119 rfl rfl rfl ?_
        obtain ⟨hb22, h⟩ := h
        refine e_r_iald (j9 := p1.toNat) (pc' := 121) rfl (Nat.le_of_ble_eq_true rfl) hb22.1 hb22.2 rfl dX10_person_120 rfl ?_
        exact e_r_iret (ty := .int) rfl (e_nI _) dX10_person_121 h
    · exact e_r_callVx (a := 1) (av := [.inl p2, .inl 0, .inl 6]) (st := []) mqYX10_needWithin ml_RX10_191 cl_10 rfl (Nat.le_of_ble_eq_true rfl) (by simp [e_cat]) rfl rfl rfl dX10_person_10 rfl he6 ⟨Nat.le_refl _, Nat.le_succ _⟩ h
  · exact e_r_callVx (a := 1) (av := [.inl p1]) (st := []) mqYX10_needPerson ml_RX10_222 cl_10 rfl (Nat.le_of_ble_eq_true rfl) (by simp [e_cat]) rfl rfl rfl dX10_person_2 rfl he2 ⟨Nat.le_refl _, Nat.le_succ _⟩ h
theorem wp_X10_duty_0 {X : e_X} {d gn : Nat} {o : e_O} (M : e_M) (p1 p2 : Int) (hmo : e_mn (557, gn, e_RF, M) o.2) (h : ((∃ N1 : e_M, e_E X d YX10_needDuty [.inr (.inr 1), .inl p1] (557, gn, e_RF, M) (.inl none, (557, gn, e_RF, N1)) ∧ ((∃ N5 : e_M, e_E X d YX10_needWithin [.inr (.inr 1), .inl p2, .inl 0, .inl 1] (557, gn, e_RF, N1) (.inl none, (557, gn, e_RF, N5)) ∧ ((¬ p2 = 0 → (∃ (r12 : Int) (N11 : e_M), e_E X d YX8_ableBits [.inr (.inr 4), .inl p1] (557, gn, e_RF, N5) (.inl (some (.inl r12)), (557, gn, e_RF, N11)) ∧ (o = (.inl (some (.inl r12)), (557, gn, e_RF, N11))))) ∧ (p2 = 0 → ((0 ≤ p1 ∧ p1 < 6) ∧ (o = (.inl (some (.inl (N5 8 p1.toNat))), (557, gn, e_RF, N5))))))) ∨ (∃ (z7 : Nat) (N8 : e_M), e_E X d YX10_needWithin [.inr (.inr 1), .inl p2, .inl 0, .inl 1] (557, gn, e_RF, N1) (.inr z7, (557, gn + 1, e_RF, N8)) ∧ o = (.inr z7, (557, gn + 1, e_RF, N8))))) ∨ (∃ (z3 : Nat) (N4 : e_M), e_E X d YX10_needDuty [.inr (.inr 1), .inl p1] (557, gn, e_RF, M) (.inr z3, (557, gn + 1, e_RF, N4)) ∧ o = (.inr z3, (557, gn + 1, e_RF, N4))))) : e_G X (d + 1) YX10_duty 0 [some (.inr (.inr 1)), some (.inl p1), some (.inl p2)] [] (557, gn, e_RF, M) o := by
  refine e_r_aload_n (pc' := 1) (by decide) dX10_duty_0 rfl rfl rfl ?_
  refine e_r_iload_n (pc' := 2) dX10_duty_1 rfl rfl rfl ?_
  rcases h with ⟨N1, he2, h⟩ | ⟨z3, N4, he2, h⟩
  · refine e_r_callV (a := 1) (av := [.inl p1]) (st := []) mqYX10_needDuty ml_RX10_247 cl_10 rfl (Nat.le_of_ble_eq_true rfl) (by simp [e_cat]) rfl rfl rfl dX10_duty_2 (pc' := 5) rfl he2 ⟨Nat.le_refl _, Nat.le_refl _⟩ hmo ?_
    refine e_r_aload_n (pc' := 6) (by decide) dX10_duty_5 rfl rfl rfl ?_
    refine e_r_iload_n (pc' := 7) dX10_duty_6 rfl rfl rfl ?_
    refine e_r_iconst (pc' := 8) dX10_duty_7 rfl (by decide) ?_
    refine e_r_iconst (pc' := 9) dX10_duty_8 rfl (by decide) ?_
    rcases h with ⟨N5, he6, h⟩ | ⟨z7, N8, he6, h⟩
    · refine e_r_callV (a := 1) (av := [.inl p2, .inl 0, .inl 1]) (st := []) mqYX10_needWithin ml_RX10_191 cl_10 rfl (Nat.le_of_ble_eq_true rfl) (by simp [e_cat]) rfl rfl rfl dX10_duty_9 (pc' := 12) rfl he6 ⟨Nat.le_refl _, Nat.le_refl _⟩ hmo ?_
      refine e_r_iload_n (pc' := 13) dX10_duty_12 rfl rfl rfl ?_
      obtain ⟨ht9, hf10⟩ := h
      refine e_r_if_ne (tgt := 28) (pc' := 16) dX10_duty_13 rfl rfl (fun c => ?_) (fun c => ?_)
      · have h := ht9 c
        refine e_r_aload_n (pc' := 29) (by decide) dX10_duty_28 rfl rfl rfl ?_
        refine e_r_getr (k := 1) (q := 4) (pc' := 32) cl_10 rfl (Nat.le_of_ble_eq_true rfl) rfl rfl fl_RX10_19 rfl (Nat.le_of_ble_eq_true rfl) dX10_duty_29 rfl ?_
        refine e_r_iload_n (pc' := 33) dX10_duty_32 rfl rfl rfl ?_
        obtain ⟨r12, N11, he13, h⟩ := h
        refine e_r_callV (a := 4) (av := [.inl p1]) (st := []) mqYX8_ableBits ml_RX10_253 cl_8 rfl (Nat.le_of_ble_eq_true rfl) (by simp [e_cat]) rfl rfl rfl dX10_duty_33 (pc' := 36) rfl he13 ⟨Nat.le_refl _, Nat.le_refl _⟩ hmo ?_
        exact e_r_iret (ty := .int) rfl (e_nI _) dX10_duty_36 h
      · have h := hf10 c
        refine e_r_aload_n (pc' := 17) (by decide) dX10_duty_16 rfl rfl rfl ?_
        refine e_r_getr (k := 1) (q := 4) (pc' := 20) cl_10 rfl (Nat.le_of_ble_eq_true rfl) rfl rfl fl_RX10_19 rfl (Nat.le_of_ble_eq_true rfl) dX10_duty_17 rfl ?_
        refine e_r_getr (k := 6) (q := 8) (pc' := 23) cl_8 rfl (Nat.le_of_ble_eq_true rfl) rfl rfl fl_RX10_250 rfl (Nat.le_of_ble_eq_true rfl) dX10_duty_20 rfl ?_
        refine e_r_iload_n (pc' := 24) dX10_duty_23 rfl rfl rfl ?_
        obtain ⟨hb14, h⟩ := h
        refine e_r_iald (j9 := p1.toNat) (pc' := 25) rfl (Nat.le_of_ble_eq_true rfl) hb14.1 hb14.2 rfl dX10_duty_24 rfl ?_
        refine e_r_goto (pc' := 36) dX10_duty_25 rfl ?_
        exact e_r_iret (ty := .int) rfl (e_nI _) dX10_duty_36 h
    · exact e_r_callVx (a := 1) (av := [.inl p2, .inl 0, .inl 1]) (st := []) mqYX10_needWithin ml_RX10_191 cl_10 rfl (Nat.le_of_ble_eq_true rfl) (by simp [e_cat]) rfl rfl rfl dX10_duty_9 rfl he6 ⟨Nat.le_refl _, Nat.le_succ _⟩ h
  · exact e_r_callVx (a := 1) (av := [.inl p1]) (st := []) mqYX10_needDuty ml_RX10_247 cl_10 rfl (Nat.le_of_ble_eq_true rfl) (by simp [e_cat]) rfl rfl rfl dX10_duty_2 rfl he2 ⟨Nat.le_refl _, Nat.le_succ _⟩ h
theorem wp_X10_task_0 {X : e_X} {d gn : Nat} {o : e_O} (M : e_M) (p1 p2 : Int) (hmo : e_mn (557, gn, e_RF, M) o.2) (h : ((∃ N1 : e_M, e_E X d YX10_needTask [.inr (.inr 1), .inl p1] (557, gn, e_RF, M) (.inl none, (557, gn, e_RF, N1)) ∧ ((∃ N5 : e_M, e_E X d YX10_needWithin [.inr (.inr 1), .inl p2, .inl 0, .inl 3] (557, gn, e_RF, N1) (.inl none, (557, gn, e_RF, N5)) ∧ ((p2 = 0 → ((0 ≤ p1 ∧ p1 < 12) ∧ (o = (.inl (some (.inl (N5 9 p1.toNat))), (557, gn, e_RF, N5))))) ∧ (p2 = 1 → ((0 ≤ p1 ∧ p1 < 12) ∧ (o = (.inl (some (.inl (N5 42 p1.toNat))), (557, gn, e_RF, N5))))) ∧ (p2 = 2 → ((0 ≤ p1 ∧ p1 < 12) ∧ (o = (.inl (some (.inl (N5 11 p1.toNat))), (557, gn, e_RF, N5))))) ∧ (p2 < 0 ∨ 2 < p2 → (∃ (r17 : Int) (N16 : e_M), e_E X d YX3_isDone [.inr (.inr 36), .inl p1] (557, gn, e_RF, N5) (.inl (some (.inl r17)), (557, gn, e_RF, N16)) ∧ ((r17 = 0 → (o = (.inl (some (.inl 0)), (557, gn, e_RF, N16)))) ∧ (¬ (r17 = 0) → (o = (.inl (some (.inl 1)), (557, gn, e_RF, N16))))))))) ∨ (∃ (z7 : Nat) (N8 : e_M), e_E X d YX10_needWithin [.inr (.inr 1), .inl p2, .inl 0, .inl 3] (557, gn, e_RF, N1) (.inr z7, (557, gn + 1, e_RF, N8)) ∧ o = (.inr z7, (557, gn + 1, e_RF, N8))))) ∨ (∃ (z3 : Nat) (N4 : e_M), e_E X d YX10_needTask [.inr (.inr 1), .inl p1] (557, gn, e_RF, M) (.inr z3, (557, gn + 1, e_RF, N4)) ∧ o = (.inr z3, (557, gn + 1, e_RF, N4))))) : e_G X (d + 1) YX10_task 0 [some (.inr (.inr 1)), some (.inl p1), some (.inl p2)] [] (557, gn, e_RF, M) o := by
  refine e_r_aload_n (pc' := 1) (by decide) dX10_task_0 rfl rfl rfl ?_
  refine e_r_iload_n (pc' := 2) dX10_task_1 rfl rfl rfl ?_
  rcases h with ⟨N1, he2, h⟩ | ⟨z3, N4, he2, h⟩
  · refine e_r_callV (a := 1) (av := [.inl p1]) (st := []) mqYX10_needTask ml_RX10_257 cl_10 rfl (Nat.le_of_ble_eq_true rfl) (by simp [e_cat]) rfl rfl rfl dX10_task_2 (pc' := 5) rfl he2 ⟨Nat.le_refl _, Nat.le_refl _⟩ hmo ?_
    refine e_r_aload_n (pc' := 6) (by decide) dX10_task_5 rfl rfl rfl ?_
    refine e_r_iload_n (pc' := 7) dX10_task_6 rfl rfl rfl ?_
    refine e_r_iconst (pc' := 8) dX10_task_7 rfl (by decide) ?_
    refine e_r_iconst (pc' := 9) dX10_task_8 rfl (by decide) ?_
    rcases h with ⟨N5, he6, h⟩ | ⟨z7, N8, he6, h⟩
    · refine e_r_callV (a := 1) (av := [.inl p2, .inl 0, .inl 3]) (st := []) mqYX10_needWithin ml_RX10_191 cl_10 rfl (Nat.le_of_ble_eq_true rfl) (by simp [e_cat]) rfl rfl rfl dX10_task_9 (pc' := 12) rfl he6 ⟨Nat.le_refl _, Nat.le_refl _⟩ hmo ?_
      refine e_r_iload_n (pc' := 13) dX10_task_12 rfl rfl rfl ?_
      obtain ⟨hk9, hk10, hk11, hd12⟩ := h
      refine e_r_table (tgt := 70) dX10_task_13 rfl (fun j => bif Nat.beq j 0 then 40 else bif Nat.beq j 1 then 50 else 60) (fun j hj => ?_) (fun j ej hj => ?_) (fun c => ?_)
      · rcases (show j = 0 ∨ j = 1 ∨ j = 2 by omega) with rfl | rfl | rfl
        · exact ⟨27, rfl, rfl⟩
        · exact ⟨37, rfl, rfl⟩
        · exact ⟨47, rfl, rfl⟩
      · rcases (show j = 0 ∨ j = 1 ∨ j = 2 by omega) with rfl | rfl | rfl
        · have h := hk9 (by omega)
          show e_G X (d + 1) YX10_task 40 [some (.inr (.inr 1)), some (.inl p1), some (.inl p2)] [] (557, gn, e_RF, N5) o
          refine e_r_aload_n (pc' := 41) (by decide) dX10_task_40 rfl rfl rfl ?_
          refine e_r_getr (k := 1) (q := 4) (pc' := 44) cl_10 rfl (Nat.le_of_ble_eq_true rfl) rfl rfl fl_RX10_19 rfl (Nat.le_of_ble_eq_true rfl) dX10_task_41 rfl ?_
          refine e_r_getr (k := 7) (q := 9) (pc' := 47) cl_8 rfl (Nat.le_of_ble_eq_true rfl) rfl rfl fl_RX10_260 rfl (Nat.le_of_ble_eq_true rfl) dX10_task_44 rfl ?_
          refine e_r_iload_n (pc' := 48) dX10_task_47 rfl rfl rfl ?_
          obtain ⟨hb13, h⟩ := h
          refine e_r_iald (j9 := p1.toNat) (pc' := 49) rfl (Nat.le_of_ble_eq_true rfl) hb13.1 hb13.2 rfl dX10_task_48 rfl ?_
          exact e_r_iret (ty := .int) rfl (e_nI _) dX10_task_49 h
        · have h := hk10 (by omega)
          show e_G X (d + 1) YX10_task 50 [some (.inr (.inr 1)), some (.inl p1), some (.inl p2)] [] (557, gn, e_RF, N5) o
          refine e_r_aload_n (pc' := 51) (by decide) dX10_task_50 rfl rfl rfl ?_
          refine e_r_getr (k := 8) (q := 36) (pc' := 54) cl_10 rfl (Nat.le_of_ble_eq_true rfl) rfl rfl fl_RX10_58 rfl (Nat.le_of_ble_eq_true rfl) dX10_task_51 rfl ?_
          refine e_r_getr (k := 10) (q := 42) (pc' := 57) cl_3 rfl (Nat.le_of_ble_eq_true rfl) rfl rfl fl_RX10_263 rfl (Nat.le_of_ble_eq_true rfl) dX10_task_54 rfl ?_
          refine e_r_iload_n (pc' := 58) dX10_task_57 rfl rfl rfl ?_
          obtain ⟨hb14, h⟩ := h
          refine e_r_iald (j9 := p1.toNat) (pc' := 59) rfl (Nat.le_of_ble_eq_true rfl) hb14.1 hb14.2 rfl dX10_task_58 rfl ?_
          exact e_r_iret (ty := .int) rfl (e_nI _) dX10_task_59 h
        · have h := hk11 (by omega)
          show e_G X (d + 1) YX10_task 60 [some (.inr (.inr 1)), some (.inl p1), some (.inl p2)] [] (557, gn, e_RF, N5) o
          refine e_r_aload_n (pc' := 61) (by decide) dX10_task_60 rfl rfl rfl ?_
          refine e_r_getr (k := 1) (q := 4) (pc' := 64) cl_10 rfl (Nat.le_of_ble_eq_true rfl) rfl rfl fl_RX10_19 rfl (Nat.le_of_ble_eq_true rfl) dX10_task_61 rfl ?_
          refine e_r_getr (k := 9) (q := 11) (pc' := 67) cl_8 rfl (Nat.le_of_ble_eq_true rfl) rfl rfl fl_RX10_266 rfl (Nat.le_of_ble_eq_true rfl) dX10_task_64 rfl ?_
          refine e_r_iload_n (pc' := 68) dX10_task_67 rfl rfl rfl ?_
          obtain ⟨hb15, h⟩ := h
          refine e_r_iald (j9 := p1.toNat) (pc' := 69) rfl (Nat.le_of_ble_eq_true rfl) hb15.1 hb15.2 rfl dX10_task_68 rfl ?_
          exact e_r_iret (ty := .int) rfl (e_nI _) dX10_task_69 h
      · have h := hd12 c
        refine e_r_aload_n (pc' := 71) (by decide) dX10_task_70 rfl rfl rfl ?_
        refine e_r_getr (k := 8) (q := 36) (pc' := 74) cl_10 rfl (Nat.le_of_ble_eq_true rfl) rfl rfl fl_RX10_58 rfl (Nat.le_of_ble_eq_true rfl) dX10_task_71 rfl ?_
        refine e_r_iload_n (pc' := 75) dX10_task_74 rfl rfl rfl ?_
        obtain ⟨r17, N16, he18, h⟩ := h
        refine e_r_callV (a := 36) (av := [.inl p1]) (st := []) mqYX3_isDone ml_RX10_269 cl_3 rfl (Nat.le_of_ble_eq_true rfl) (by simp [e_cat]) rfl rfl rfl dX10_task_75 (pc' := 78) rfl he18 ⟨Nat.le_refl _, Nat.le_refl _⟩ hmo ?_
        obtain ⟨ht19, hf20⟩ := h
        refine e_r_if_eq (tgt := 85) (pc' := 81) dX10_task_78 rfl rfl (fun c => ?_) (fun c => ?_)
        · have h := ht19 c
          refine e_r_iconst (pc' := 86) dX10_task_85 rfl (by decide) ?_
          exact e_r_iret (ty := .int) rfl (e_nI _) dX10_task_86 h
        · have h := hf20 c
          refine e_r_iconst (pc' := 82) dX10_task_81 rfl (by decide) ?_
          refine e_r_goto (pc' := 86) dX10_task_82 rfl ?_
          exact e_r_iret (ty := .int) rfl (e_nI _) dX10_task_86 h
    · exact e_r_callVx (a := 1) (av := [.inl p2, .inl 0, .inl 3]) (st := []) mqYX10_needWithin ml_RX10_191 cl_10 rfl (Nat.le_of_ble_eq_true rfl) (by simp [e_cat]) rfl rfl rfl dX10_task_9 rfl he6 ⟨Nat.le_refl _, Nat.le_succ _⟩ h
  · exact e_r_callVx (a := 1) (av := [.inl p1]) (st := []) mqYX10_needTask ml_RX10_257 cl_10 rfl (Nat.le_of_ble_eq_true rfl) (by simp [e_cat]) rfl rfl rfl dX10_task_2 rfl he2 ⟨Nat.le_refl _, Nat.le_succ _⟩ h
theorem wp_X10_price_0 {X : e_X} {d gn : Nat} {o : e_O} (M : e_M) (p1 : Int) (hmo : e_mn (557, gn, e_RF, M) o.2) (h : ((∃ N1 : e_M, e_E X d YX10_needPerson [.inr (.inr 1), .inl p1] (557, gn, e_RF, M) (.inl none, (557, gn, e_RF, N1)) ∧ (∃ (r6 : Int) (N5 : e_M), e_E X d YX3_priceFor [.inr (.inr 36), .inl p1] (557, gn, e_RF, N1) (.inl (some (.inl r6)), (557, gn, e_RF, N5)) ∧ (o = (.inl (some (.inl r6)), (557, gn, e_RF, N5))))) ∨ (∃ (z3 : Nat) (N4 : e_M), e_E X d YX10_needPerson [.inr (.inr 1), .inl p1] (557, gn, e_RF, M) (.inr z3, (557, gn + 1, e_RF, N4)) ∧ o = (.inr z3, (557, gn + 1, e_RF, N4))))) : e_G X (d + 1) YX10_price 0 [some (.inr (.inr 1)), some (.inl p1)] [] (557, gn, e_RF, M) o := by
  refine e_r_aload_n (pc' := 1) (by decide) dX10_price_0 rfl rfl rfl ?_
  refine e_r_iload_n (pc' := 2) dX10_price_1 rfl rfl rfl ?_
  rcases h with ⟨N1, he2, h⟩ | ⟨z3, N4, he2, h⟩
  · refine e_r_callV (a := 1) (av := [.inl p1]) (st := []) mqYX10_needPerson ml_RX10_222 cl_10 rfl (Nat.le_of_ble_eq_true rfl) (by simp [e_cat]) rfl rfl rfl dX10_price_2 (pc' := 5) rfl he2 ⟨Nat.le_refl _, Nat.le_refl _⟩ hmo ?_
    refine e_r_aload_n (pc' := 6) (by decide) dX10_price_5 rfl rfl rfl ?_
    refine e_r_getr (k := 8) (q := 36) (pc' := 9) cl_10 rfl (Nat.le_of_ble_eq_true rfl) rfl rfl fl_RX10_58 rfl (Nat.le_of_ble_eq_true rfl) dX10_price_6 rfl ?_
    refine e_r_iload_n (pc' := 10) dX10_price_9 rfl rfl rfl ?_
    obtain ⟨r6, N5, he7, h⟩ := h
    refine e_r_callV (a := 36) (av := [.inl p1]) (st := []) mqYX3_priceFor ml_RX10_272 cl_3 rfl (Nat.le_of_ble_eq_true rfl) (by simp [e_cat]) rfl rfl rfl dX10_price_10 (pc' := 13) rfl he7 ⟨Nat.le_refl _, Nat.le_refl _⟩ hmo ?_
    exact e_r_iret (ty := .int) rfl (e_nI _) dX10_price_13 h
  · exact e_r_callVx (a := 1) (av := [.inl p1]) (st := []) mqYX10_needPerson ml_RX10_222 cl_10 rfl (Nat.le_of_ble_eq_true rfl) (by simp [e_cat]) rfl rfl rfl dX10_price_2 rfl he2 ⟨Nat.le_refl _, Nat.le_succ _⟩ h
theorem wp_X10_would_0 {X : e_X} {d gn : Nat} {o : e_O} (M : e_M) (p1 p2 p3 p4 p5 p6 p7 p8 : Int) (hmo : e_mn (557, gn, e_RF, M) o.2) (h : ((∃ N1 : e_M, e_E X d YX10_needWithin [.inr (.inr 1), .inl p1, .inl 0, .inl 300] (557, gn, e_RF, M) (.inl none, (557, gn, e_RF, N1)) ∧ ((∃ N5 : e_M, e_E X d YX10_needWithin [.inr (.inr 1), .inl p2, .inl 0, .inl 5] (557, gn, e_RF, N1) (.inl none, (557, gn, e_RF, N5)) ∧ ((∃ N9 : e_M, e_E X d YX10_needWithin [.inr (.inr 1), .inl p3, .inl 0, .inl 999] (557, gn, e_RF, N5) (.inl none, (557, gn, e_RF, N9)) ∧ ((∃ N13 : e_M, e_E X d YX10_needWithin [.inr (.inr 1), .inl p4, .inl 0, .inl 999] (557, gn, e_RF, N9) (.inl none, (557, gn, e_RF, N13)) ∧ ((∃ N17 : e_M, e_E X d YX10_needWithin [.inr (.inr 1), .inl p5, .inl 0, .inl 30] (557, gn, e_RF, N13) (.inl none, (557, gn, e_RF, N17)) ∧ ((∃ N21 : e_M, e_E X d YX10_needWithin [.inr (.inr 1), .inl p6, .inl 0, .inl 6] (557, gn, e_RF, N17) (.inl none, (557, gn, e_RF, N21)) ∧ ((∃ N25 : e_M, e_E X d YX10_needWithin [.inr (.inr 1), .inl p7, .inl 0, .inl 12] (557, gn, e_RF, N21) (.inl none, (557, gn, e_RF, N25)) ∧ ((∃ N29 : e_M, e_E X d YX10_needWithin [.inr (.inr 1), .inl p8, .inl 0, .inl 5] (557, gn, e_RF, N25) (.inl none, (557, gn, e_RF, N29)) ∧ (∃ (r34 : Int) (N33 : e_M), e_E X d YX2_priceOfSeen [.inr (.inr 20)] (557, gn, e_RF, (e_up (e_up (e_up (e_up (e_up (e_up (e_up (e_up N29 23 0 p1) 23 1 p2) 23 2 p3) 23 3 p4) 23 4 p5) 23 5 p6) 23 6 p7) 23 7 p8)) (.inl (some (.inl r34)), (557, gn, e_RF, N33)) ∧ (o = (.inl (some (.inl r34)), (557, gn, e_RF, N33))))) ∨ (∃ (z31 : Nat) (N32 : e_M), e_E X d YX10_needWithin [.inr (.inr 1), .inl p8, .inl 0, .inl 5] (557, gn, e_RF, N25) (.inr z31, (557, gn + 1, e_RF, N32)) ∧ o = (.inr z31, (557, gn + 1, e_RF, N32))))) ∨ (∃ (z27 : Nat) (N28 : e_M), e_E X d YX10_needWithin [.inr (.inr 1), .inl p7, .inl 0, .inl 12] (557, gn, e_RF, N21) (.inr z27, (557, gn + 1, e_RF, N28)) ∧ o = (.inr z27, (557, gn + 1, e_RF, N28))))) ∨ (∃ (z23 : Nat) (N24 : e_M), e_E X d YX10_needWithin [.inr (.inr 1), .inl p6, .inl 0, .inl 6] (557, gn, e_RF, N17) (.inr z23, (557, gn + 1, e_RF, N24)) ∧ o = (.inr z23, (557, gn + 1, e_RF, N24))))) ∨ (∃ (z19 : Nat) (N20 : e_M), e_E X d YX10_needWithin [.inr (.inr 1), .inl p5, .inl 0, .inl 30] (557, gn, e_RF, N13) (.inr z19, (557, gn + 1, e_RF, N20)) ∧ o = (.inr z19, (557, gn + 1, e_RF, N20))))) ∨ (∃ (z15 : Nat) (N16 : e_M), e_E X d YX10_needWithin [.inr (.inr 1), .inl p4, .inl 0, .inl 999] (557, gn, e_RF, N9) (.inr z15, (557, gn + 1, e_RF, N16)) ∧ o = (.inr z15, (557, gn + 1, e_RF, N16))))) ∨ (∃ (z11 : Nat) (N12 : e_M), e_E X d YX10_needWithin [.inr (.inr 1), .inl p3, .inl 0, .inl 999] (557, gn, e_RF, N5) (.inr z11, (557, gn + 1, e_RF, N12)) ∧ o = (.inr z11, (557, gn + 1, e_RF, N12))))) ∨ (∃ (z7 : Nat) (N8 : e_M), e_E X d YX10_needWithin [.inr (.inr 1), .inl p2, .inl 0, .inl 5] (557, gn, e_RF, N1) (.inr z7, (557, gn + 1, e_RF, N8)) ∧ o = (.inr z7, (557, gn + 1, e_RF, N8))))) ∨ (∃ (z3 : Nat) (N4 : e_M), e_E X d YX10_needWithin [.inr (.inr 1), .inl p1, .inl 0, .inl 300] (557, gn, e_RF, M) (.inr z3, (557, gn + 1, e_RF, N4)) ∧ o = (.inr z3, (557, gn + 1, e_RF, N4))))) : e_G X (d + 1) YX10_would 0 [some (.inr (.inr 1)), some (.inl p1), some (.inl p2), some (.inl p3), some (.inl p4), some (.inl p5), some (.inl p6), some (.inl p7), some (.inl p8), none] [] (557, gn, e_RF, M) o := by
  refine e_r_aload_n (pc' := 1) (by decide) dX10_would_0 rfl rfl rfl ?_
  refine e_r_iload_n (pc' := 2) dX10_would_1 rfl rfl rfl ?_
  refine e_r_iconst (pc' := 3) dX10_would_2 rfl (by decide) ?_
  refine e_r_sipush (pc' := 6) dX10_would_3 rfl (by decide) ?_
  rcases h with ⟨N1, he2, h⟩ | ⟨z3, N4, he2, h⟩
  · refine e_r_callV (a := 1) (av := [.inl p1, .inl 0, .inl 300]) (st := []) mqYX10_needWithin ml_RX10_191 cl_10 rfl (Nat.le_of_ble_eq_true rfl) (by simp [e_cat]) rfl rfl rfl dX10_would_6 (pc' := 9) rfl he2 ⟨Nat.le_refl _, Nat.le_refl _⟩ hmo ?_
    refine e_r_aload_n (pc' := 10) (by decide) dX10_would_9 rfl rfl rfl ?_
    refine e_r_iload_n (pc' := 11) dX10_would_10 rfl rfl rfl ?_
    refine e_r_iconst (pc' := 12) dX10_would_11 rfl (by decide) ?_
    refine e_r_iconst (pc' := 13) dX10_would_12 rfl (by decide) ?_
    rcases h with ⟨N5, he6, h⟩ | ⟨z7, N8, he6, h⟩
    · refine e_r_callV (a := 1) (av := [.inl p2, .inl 0, .inl 5]) (st := []) mqYX10_needWithin ml_RX10_191 cl_10 rfl (Nat.le_of_ble_eq_true rfl) (by simp [e_cat]) rfl rfl rfl dX10_would_13 (pc' := 16) rfl he6 ⟨Nat.le_refl _, Nat.le_refl _⟩ hmo ?_
      refine e_r_aload_n (pc' := 17) (by decide) dX10_would_16 rfl rfl rfl ?_
      refine e_r_iload_n (pc' := 18) dX10_would_17 rfl rfl rfl ?_
      refine e_r_iconst (pc' := 19) dX10_would_18 rfl (by decide) ?_
      refine e_r_sipush (pc' := 22) dX10_would_19 rfl (by decide) ?_
      rcases h with ⟨N9, he10, h⟩ | ⟨z11, N12, he10, h⟩
      · refine e_r_callV (a := 1) (av := [.inl p3, .inl 0, .inl 999]) (st := []) mqYX10_needWithin ml_RX10_191 cl_10 rfl (Nat.le_of_ble_eq_true rfl) (by simp [e_cat]) rfl rfl rfl dX10_would_22 (pc' := 25) rfl he10 ⟨Nat.le_refl _, Nat.le_refl _⟩ hmo ?_
        refine e_r_aload_n (pc' := 26) (by decide) dX10_would_25 rfl rfl rfl ?_
        refine e_r_iload (pc' := 28) dX10_would_26 rfl rfl ?_
        refine e_r_iconst (pc' := 29) dX10_would_28 rfl (by decide) ?_
        refine e_r_sipush (pc' := 32) dX10_would_29 rfl (by decide) ?_
        rcases h with ⟨N13, he14, h⟩ | ⟨z15, N16, he14, h⟩
        · refine e_r_callV (a := 1) (av := [.inl p4, .inl 0, .inl 999]) (st := []) mqYX10_needWithin ml_RX10_191 cl_10 rfl (Nat.le_of_ble_eq_true rfl) (by simp [e_cat]) rfl rfl rfl dX10_would_32 (pc' := 35) rfl he14 ⟨Nat.le_refl _, Nat.le_refl _⟩ hmo ?_
          refine e_r_aload_n (pc' := 36) (by decide) dX10_would_35 rfl rfl rfl ?_
          refine e_r_iload (pc' := 38) dX10_would_36 rfl rfl ?_
          refine e_r_iconst (pc' := 39) dX10_would_38 rfl (by decide) ?_
          refine e_r_bipush (pc' := 41) dX10_would_39 rfl (by decide) ?_
          rcases h with ⟨N17, he18, h⟩ | ⟨z19, N20, he18, h⟩
          · refine e_r_callV (a := 1) (av := [.inl p5, .inl 0, .inl 30]) (st := []) mqYX10_needWithin ml_RX10_191 cl_10 rfl (Nat.le_of_ble_eq_true rfl) (by simp [e_cat]) rfl rfl rfl dX10_would_41 (pc' := 44) rfl he18 ⟨Nat.le_refl _, Nat.le_refl _⟩ hmo ?_
            refine e_r_aload_n (pc' := 45) (by decide) dX10_would_44 rfl rfl rfl ?_
            refine e_r_iload (pc' := 47) dX10_would_45 rfl rfl ?_
            refine e_r_iconst (pc' := 48) dX10_would_47 rfl (by decide) ?_
            refine e_r_bipush (pc' := 50) dX10_would_48 rfl (by decide) ?_
            rcases h with ⟨N21, he22, h⟩ | ⟨z23, N24, he22, h⟩
            · refine e_r_callV (a := 1) (av := [.inl p6, .inl 0, .inl 6]) (st := []) mqYX10_needWithin ml_RX10_191 cl_10 rfl (Nat.le_of_ble_eq_true rfl) (by simp [e_cat]) rfl rfl rfl dX10_would_50 (pc' := 53) rfl he22 ⟨Nat.le_refl _, Nat.le_refl _⟩ hmo ?_
              refine e_r_aload_n (pc' := 54) (by decide) dX10_would_53 rfl rfl rfl ?_
              refine e_r_iload (pc' := 56) dX10_would_54 rfl rfl ?_
              refine e_r_iconst (pc' := 57) dX10_would_56 rfl (by decide) ?_
              refine e_r_bipush (pc' := 59) dX10_would_57 rfl (by decide) ?_
              rcases h with ⟨N25, he26, h⟩ | ⟨z27, N28, he26, h⟩
              · refine e_r_callV (a := 1) (av := [.inl p7, .inl 0, .inl 12]) (st := []) mqYX10_needWithin ml_RX10_191 cl_10 rfl (Nat.le_of_ble_eq_true rfl) (by simp [e_cat]) rfl rfl rfl dX10_would_59 (pc' := 62) rfl he26 ⟨Nat.le_refl _, Nat.le_refl _⟩ hmo ?_
                refine e_r_aload_n (pc' := 63) (by decide) dX10_would_62 rfl rfl rfl ?_
                refine e_r_iload (pc' := 65) dX10_would_63 rfl rfl ?_
                refine e_r_iconst (pc' := 66) dX10_would_65 rfl (by decide) ?_
                refine e_r_iconst (pc' := 67) dX10_would_66 rfl (by decide) ?_
                rcases h with ⟨N29, he30, h⟩ | ⟨z31, N32, he30, h⟩
                · refine e_r_callV (a := 1) (av := [.inl p8, .inl 0, .inl 5]) (st := []) mqYX10_needWithin ml_RX10_191 cl_10 rfl (Nat.le_of_ble_eq_true rfl) (by simp [e_cat]) rfl rfl rfl dX10_would_67 (pc' := 70) rfl he30 ⟨Nat.le_refl _, Nat.le_refl _⟩ hmo ?_
                  refine e_r_aload_n (pc' := 71) (by decide) dX10_would_70 rfl rfl rfl ?_
                  refine e_r_getr (k := 3) (q := 20) (pc' := 74) cl_10 rfl (Nat.le_of_ble_eq_true rfl) rfl rfl fl_RX10_29 rfl (Nat.le_of_ble_eq_true rfl) dX10_would_71 rfl ?_
                  refine e_r_getr (k := 3) (q := 23) (pc' := 77) cl_2 rfl (Nat.le_of_ble_eq_true rfl) rfl rfl fl_RX10_275 rfl (Nat.le_of_ble_eq_true rfl) dX10_would_74 rfl ?_
                  refine e_r_astore (pc' := 79) (loc' := [some (.inr (.inr 1)), some (.inl p1), some (.inl p2), some (.inl p3), some (.inl p4), some (.inl p5), some (.inl p6), some (.inl p7), some (.inl p8), some (.inr (.inr 23))]) (by decide) dX10_would_77 rfl rfl rfl rfl ?_
                  refine e_r_aload (pc' := 81) (by decide) dX10_would_79 rfl rfl ?_
                  refine e_r_iconst (pc' := 82) dX10_would_81 rfl (by decide) ?_
                  refine e_r_iload_n (pc' := 83) dX10_would_82 rfl rfl rfl ?_
                  refine e_r_iast (j9 := 0) (pc' := 84) rfl (Nat.le_of_ble_eq_true rfl) (by decide) (by decide) rfl dX10_would_83 rfl ?_
                  refine e_r_aload (pc' := 86) (by decide) dX10_would_84 rfl rfl ?_
                  refine e_r_iconst (pc' := 87) dX10_would_86 rfl (by decide) ?_
                  refine e_r_iload_n (pc' := 88) dX10_would_87 rfl rfl rfl ?_
                  refine e_r_iast (j9 := 1) (pc' := 89) rfl (Nat.le_of_ble_eq_true rfl) (by decide) (by decide) rfl dX10_would_88 rfl ?_
                  refine e_r_aload (pc' := 91) (by decide) dX10_would_89 rfl rfl ?_
                  refine e_r_iconst (pc' := 92) dX10_would_91 rfl (by decide) ?_
                  refine e_r_iload_n (pc' := 93) dX10_would_92 rfl rfl rfl ?_
                  refine e_r_iast (j9 := 2) (pc' := 94) rfl (Nat.le_of_ble_eq_true rfl) (by decide) (by decide) rfl dX10_would_93 rfl ?_
                  refine e_r_aload (pc' := 96) (by decide) dX10_would_94 rfl rfl ?_
                  refine e_r_iconst (pc' := 97) dX10_would_96 rfl (by decide) ?_
                  refine e_r_iload (pc' := 99) dX10_would_97 rfl rfl ?_
                  refine e_r_iast (j9 := 3) (pc' := 100) rfl (Nat.le_of_ble_eq_true rfl) (by decide) (by decide) rfl dX10_would_99 rfl ?_
                  refine e_r_aload (pc' := 102) (by decide) dX10_would_100 rfl rfl ?_
                  refine e_r_iconst (pc' := 103) dX10_would_102 rfl (by decide) ?_
                  refine e_r_iload (pc' := 105) dX10_would_103 rfl rfl ?_
                  refine e_r_iast (j9 := 4) (pc' := 106) rfl (Nat.le_of_ble_eq_true rfl) (by decide) (by decide) rfl dX10_would_105 rfl ?_
                  refine e_r_aload (pc' := 108) (by decide) dX10_would_106 rfl rfl ?_
                  refine e_r_iconst (pc' := 109) dX10_would_108 rfl (by decide) ?_
                  refine e_r_iload (pc' := 111) dX10_would_109 rfl rfl ?_
                  refine e_r_iast (j9 := 5) (pc' := 112) rfl (Nat.le_of_ble_eq_true rfl) (by decide) (by decide) rfl dX10_would_111 rfl ?_
                  refine e_r_aload (pc' := 114) (by decide) dX10_would_112 rfl rfl ?_
                  refine e_r_bipush (pc' := 116) dX10_would_114 rfl (by decide) ?_
                  refine e_r_iload (pc' := 118) dX10_would_116 rfl rfl ?_
                  refine e_r_iast (j9 := 6) (pc' := 119) rfl (Nat.le_of_ble_eq_true rfl) (by decide) (by decide) rfl dX10_would_118 rfl ?_
                  refine e_r_aload (pc' := 121) (by decide) dX10_would_119 rfl rfl ?_
                  refine e_r_bipush (pc' := 123) dX10_would_121 rfl (by decide) ?_
                  refine e_r_iload (pc' := 125) dX10_would_123 rfl rfl ?_
                  refine e_r_iast (j9 := 7) (pc' := 126) rfl (Nat.le_of_ble_eq_true rfl) (by decide) (by decide) rfl dX10_would_125 rfl ?_
                  refine e_r_aload_n (pc' := 127) (by decide) dX10_would_126 rfl rfl rfl ?_
                  refine e_r_getr (k := 3) (q := 20) (pc' := 130) cl_10 rfl (Nat.le_of_ble_eq_true rfl) rfl rfl fl_RX10_29 rfl (Nat.le_of_ble_eq_true rfl) dX10_would_127 rfl ?_
                  obtain ⟨r34, N33, he35, h⟩ := h
                  refine e_r_callV (a := 20) (av := []) (st := []) mqYX2_priceOfSeen ml_RX10_278 cl_2 rfl (Nat.le_of_ble_eq_true rfl) (by simp [e_cat]) rfl rfl rfl dX10_would_130 (pc' := 133) rfl he35 ⟨Nat.le_refl _, Nat.le_refl _⟩ hmo ?_
                  exact e_r_iret (ty := .int) rfl (e_nI _) dX10_would_133 h
                · exact e_r_callVx (a := 1) (av := [.inl p8, .inl 0, .inl 5]) (st := []) mqYX10_needWithin ml_RX10_191 cl_10 rfl (Nat.le_of_ble_eq_true rfl) (by simp [e_cat]) rfl rfl rfl dX10_would_67 rfl he30 ⟨Nat.le_refl _, Nat.le_succ _⟩ h
              · exact e_r_callVx (a := 1) (av := [.inl p7, .inl 0, .inl 12]) (st := []) mqYX10_needWithin ml_RX10_191 cl_10 rfl (Nat.le_of_ble_eq_true rfl) (by simp [e_cat]) rfl rfl rfl dX10_would_59 rfl he26 ⟨Nat.le_refl _, Nat.le_succ _⟩ h
            · exact e_r_callVx (a := 1) (av := [.inl p6, .inl 0, .inl 6]) (st := []) mqYX10_needWithin ml_RX10_191 cl_10 rfl (Nat.le_of_ble_eq_true rfl) (by simp [e_cat]) rfl rfl rfl dX10_would_50 rfl he22 ⟨Nat.le_refl _, Nat.le_succ _⟩ h
          · exact e_r_callVx (a := 1) (av := [.inl p5, .inl 0, .inl 30]) (st := []) mqYX10_needWithin ml_RX10_191 cl_10 rfl (Nat.le_of_ble_eq_true rfl) (by simp [e_cat]) rfl rfl rfl dX10_would_41 rfl he18 ⟨Nat.le_refl _, Nat.le_succ _⟩ h
        · exact e_r_callVx (a := 1) (av := [.inl p4, .inl 0, .inl 999]) (st := []) mqYX10_needWithin ml_RX10_191 cl_10 rfl (Nat.le_of_ble_eq_true rfl) (by simp [e_cat]) rfl rfl rfl dX10_would_32 rfl he14 ⟨Nat.le_refl _, Nat.le_succ _⟩ h
      · exact e_r_callVx (a := 1) (av := [.inl p3, .inl 0, .inl 999]) (st := []) mqYX10_needWithin ml_RX10_191 cl_10 rfl (Nat.le_of_ble_eq_true rfl) (by simp [e_cat]) rfl rfl rfl dX10_would_22 rfl he10 ⟨Nat.le_refl _, Nat.le_succ _⟩ h
    · exact e_r_callVx (a := 1) (av := [.inl p2, .inl 0, .inl 5]) (st := []) mqYX10_needWithin ml_RX10_191 cl_10 rfl (Nat.le_of_ble_eq_true rfl) (by simp [e_cat]) rfl rfl rfl dX10_would_13 rfl he6 ⟨Nat.le_refl _, Nat.le_succ _⟩ h
  · exact e_r_callVx (a := 1) (av := [.inl p1, .inl 0, .inl 300]) (st := []) mqYX10_needWithin ml_RX10_191 cl_10 rfl (Nat.le_of_ble_eq_true rfl) (by simp [e_cat]) rfl rfl rfl dX10_would_6 rfl he2 ⟨Nat.le_refl _, Nat.le_succ _⟩ h
theorem wp_X10_can_0 {X : e_X} {d gn : Nat} {o : e_O} (M : e_M) (p1 : Int) (hmo : e_mn (557, gn, e_RF, M) o.2) (h : ((∃ N1 : e_M, e_E X d YX10_needPerson [.inr (.inr 1), .inl p1] (557, gn, e_RF, M) (.inl none, (557, gn, e_RF, N1)) ∧ (∃ (r6 : Int) (N5 : e_M), e_E X d YX3_canBuy [.inr (.inr 36), .inl p1] (557, gn, e_RF, N1) (.inl (some (.inl r6)), (557, gn, e_RF, N5)) ∧ ((r6 = 0 ∨ r6 = 1) ∧ o = (.inl (some (.inl r6)), (557, gn, e_RF, N5))))) ∨ (∃ (z3 : Nat) (N4 : e_M), e_E X d YX10_needPerson [.inr (.inr 1), .inl p1] (557, gn, e_RF, M) (.inr z3, (557, gn + 1, e_RF, N4)) ∧ o = (.inr z3, (557, gn + 1, e_RF, N4))))) : e_G X (d + 1) YX10_can 0 [some (.inr (.inr 1)), some (.inl p1)] [] (557, gn, e_RF, M) o := by
  refine e_r_aload_n (pc' := 1) (by decide) dX10_can_0 rfl rfl rfl ?_
  refine e_r_iload_n (pc' := 2) dX10_can_1 rfl rfl rfl ?_
  rcases h with ⟨N1, he2, h⟩ | ⟨z3, N4, he2, h⟩
  · refine e_r_callV (a := 1) (av := [.inl p1]) (st := []) mqYX10_needPerson ml_RX10_222 cl_10 rfl (Nat.le_of_ble_eq_true rfl) (by simp [e_cat]) rfl rfl rfl dX10_can_2 (pc' := 5) rfl he2 ⟨Nat.le_refl _, Nat.le_refl _⟩ hmo ?_
    refine e_r_aload_n (pc' := 6) (by decide) dX10_can_5 rfl rfl rfl ?_
    refine e_r_getr (k := 8) (q := 36) (pc' := 9) cl_10 rfl (Nat.le_of_ble_eq_true rfl) rfl rfl fl_RX10_58 rfl (Nat.le_of_ble_eq_true rfl) dX10_can_6 rfl ?_
    refine e_r_iload_n (pc' := 10) dX10_can_9 rfl rfl rfl ?_
    obtain ⟨r6, N5, he7, h⟩ := h
    refine e_r_callV (a := 36) (av := [.inl p1]) (st := []) mqYX3_canBuy ml_RX10_281 cl_3 rfl (Nat.le_of_ble_eq_true rfl) (by simp [e_cat]) rfl rfl rfl dX10_can_10 (pc' := 13) rfl he7 ⟨Nat.le_refl _, Nat.le_refl _⟩ hmo ?_
    exact e_r_iret (ty := .boolean) rfl (e_nZ h.1) dX10_can_13 h.2
  · exact e_r_callVx (a := 1) (av := [.inl p1]) (st := []) mqYX10_needPerson ml_RX10_222 cl_10 rfl (Nat.le_of_ble_eq_true rfl) (by simp [e_cat]) rfl rfl rfl dX10_can_2 rfl he2 ⟨Nat.le_refl _, Nat.le_succ _⟩ h
theorem wp_X10_cheapest_0 {X : e_X} {d gn : Nat} {o : e_O} (M : e_M) (p1 : Int) (hmo : e_mn (557, gn, e_RF, M) o.2) (h : ((∃ N1 : e_M, e_E X d YX10_needWithin [.inr (.inr 1), .inl p1, .inl 0, .inl 1] (557, gn, e_RF, M) (.inl none, (557, gn, e_RF, N1)) ∧ e_G X (d + 1) YX10_cheapest 14 [some (.inr (.inr 1)), some (.inl p1), some (.inl (-1)), some (.inl (-1)), some (.inl 0), none] [] (557, gn, e_RF, N1) o) ∨ (∃ (z3 : Nat) (N4 : e_M), e_E X d YX10_needWithin [.inr (.inr 1), .inl p1, .inl 0, .inl 1] (557, gn, e_RF, M) (.inr z3, (557, gn + 1, e_RF, N4)) ∧ o = (.inr z3, (557, gn + 1, e_RF, N4))))) : e_G X (d + 1) YX10_cheapest 0 [some (.inr (.inr 1)), some (.inl p1), none, none, none, none] [] (557, gn, e_RF, M) o := by
  refine e_r_aload_n (pc' := 1) (by decide) dX10_cheapest_0 rfl rfl rfl ?_
  refine e_r_iload_n (pc' := 2) dX10_cheapest_1 rfl rfl rfl ?_
  refine e_r_iconst (pc' := 3) dX10_cheapest_2 rfl (by decide) ?_
  refine e_r_iconst (pc' := 4) dX10_cheapest_3 rfl (by decide) ?_
  rcases h with ⟨N1, he2, h⟩ | ⟨z3, N4, he2, h⟩
  · refine e_r_callV (a := 1) (av := [.inl p1, .inl 0, .inl 1]) (st := []) mqYX10_needWithin ml_RX10_191 cl_10 rfl (Nat.le_of_ble_eq_true rfl) (by simp [e_cat]) rfl rfl rfl dX10_cheapest_4 (pc' := 7) rfl he2 ⟨Nat.le_refl _, Nat.le_refl _⟩ hmo ?_
    refine e_r_iconst (pc' := 8) dX10_cheapest_7 rfl (by decide) ?_
    refine e_r_istore_n (pc' := 9) (loc' := [some (.inr (.inr 1)), some (.inl p1), some (.inl (-1)), none, none, none]) dX10_cheapest_8 rfl rfl rfl rfl rfl ?_
    refine e_r_iconst (pc' := 10) dX10_cheapest_9 rfl (by decide) ?_
    refine e_r_istore_n (pc' := 11) (loc' := [some (.inr (.inr 1)), some (.inl p1), some (.inl (-1)), some (.inl (-1)), none, none]) dX10_cheapest_10 rfl rfl rfl rfl rfl ?_
    refine e_r_iconst (pc' := 12) dX10_cheapest_11 rfl (by decide) ?_
    refine e_r_istore (pc' := 14) (loc' := [some (.inr (.inr 1)), some (.inl p1), some (.inl (-1)), some (.inl (-1)), some (.inl 0), none]) dX10_cheapest_12 rfl rfl rfl rfl ?_
    exact h
  · exact e_r_callVx (a := 1) (av := [.inl p1, .inl 0, .inl 1]) (st := []) mqYX10_needWithin ml_RX10_191 cl_10 rfl (Nat.le_of_ble_eq_true rfl) (by simp [e_cat]) rfl rfl rfl dX10_cheapest_4 rfl he2 ⟨Nat.le_refl _, Nat.le_succ _⟩ h
theorem wp_X10_cheapest_14 {X : e_X} {d gn : Nat} {o : e_O} (M : e_M) (p1 v2 v3 v4 : Int) (hmo : e_mn (557, gn, e_RF, M) o.2) (h : (((M 4 0) ≤ v4 → ((¬ p1 = 0 → (o = (.inl (some (.inl v3)), (557, gn, e_RF, M)))) ∧ (p1 = 0 → (o = (.inl (some (.inl v2)), (557, gn, e_RF, M)))))) ∧ (¬ ((M 4 0) ≤ v4) → (∃ (r6 : Int) (N5 : e_M), e_E X d YX3_hasBought [.inr (.inr 36), .inl v4] (557, gn, e_RF, M) (.inl (some (.inl r6)), (557, gn, e_RF, N5)) ∧ ((¬ r6 = 0 → e_G X (d + 1) YX10_cheapest 14 [some (.inr (.inr 1)), some (.inl p1), some (.inl v2), some (.inl v3), some (.inl (e_w (v4 + 1))), none] [] (557, gn, e_RF, N5) o) ∧ (r6 = 0 → (∃ (r11 : Int) (N10 : e_M), e_E X d YX3_priceFor [.inr (.inr 36), .inl v4] (557, gn, e_RF, N5) (.inl (some (.inl r11)), (557, gn, e_RF, N10)) ∧ ((v2 = (-1) → e_G X (d + 1) YX10_cheapest 14 [some (.inr (.inr 1)), some (.inl p1), some (.inl v4), some (.inl r11), some (.inl (e_w (v4 + 1))), none] [] (557, gn, e_RF, N10) o) ∧ (¬ (v2 = (-1)) → ((v3 ≤ r11 → e_G X (d + 1) YX10_cheapest 14 [some (.inr (.inr 1)), some (.inl p1), some (.inl v2), some (.inl v3), some (.inl (e_w (v4 + 1))), none] [] (557, gn, e_RF, N10) o) ∧ (¬ (v3 ≤ r11) → e_G X (d + 1) YX10_cheapest 14 [some (.inr (.inr 1)), some (.inl p1), some (.inl v4), some (.inl r11), some (.inl (e_w (v4 + 1))), none] [] (557, gn, e_RF, N10) o))))))))))) : e_G X (d + 1) YX10_cheapest 14 [some (.inr (.inr 1)), some (.inl p1), some (.inl v2), some (.inl v3), some (.inl v4), none] [] (557, gn, e_RF, M) o := by
  refine e_r_iload (pc' := 16) dX10_cheapest_14 rfl rfl ?_
  refine e_r_aload_n (pc' := 17) (by decide) dX10_cheapest_16 rfl rfl rfl ?_
  refine e_r_getr (k := 1) (q := 4) (pc' := 20) cl_10 rfl (Nat.le_of_ble_eq_true rfl) rfl rfl fl_RX10_19 rfl (Nat.le_of_ble_eq_true rfl) dX10_cheapest_17 rfl ?_
  refine e_r_geti (k := 0) (pc' := 23) cl_8 rfl (Nat.le_of_ble_eq_true rfl) rfl rfl fl_RX10_155 dX10_cheapest_20 rfl ?_
  obtain ⟨ht1, hf2⟩ := h
  refine e_r_icmp_ge (tgt := 72) (pc' := 26) dX10_cheapest_23 rfl rfl (fun c => ?_) (fun c => ?_)
  · have h := ht1 c
    refine e_r_iload_n (pc' := 73) dX10_cheapest_72 rfl rfl rfl ?_
    obtain ⟨ht3, hf4⟩ := h
    refine e_r_if_ne (tgt := 80) (pc' := 76) dX10_cheapest_73 rfl rfl (fun c => ?_) (fun c => ?_)
    · have h := ht3 c
      refine e_r_iload_n (pc' := 81) dX10_cheapest_80 rfl rfl rfl ?_
      exact e_r_iret (ty := .int) rfl (e_nI _) dX10_cheapest_81 h
    · have h := hf4 c
      refine e_r_iload_n (pc' := 77) dX10_cheapest_76 rfl rfl rfl ?_
      refine e_r_goto (pc' := 81) dX10_cheapest_77 rfl ?_
      exact e_r_iret (ty := .int) rfl (e_nI _) dX10_cheapest_81 h
  · have h := hf2 c
    refine e_r_aload_n (pc' := 27) (by decide) dX10_cheapest_26 rfl rfl rfl ?_
    refine e_r_getr (k := 8) (q := 36) (pc' := 30) cl_10 rfl (Nat.le_of_ble_eq_true rfl) rfl rfl fl_RX10_58 rfl (Nat.le_of_ble_eq_true rfl) dX10_cheapest_27 rfl ?_
    refine e_r_iload (pc' := 32) dX10_cheapest_30 rfl rfl ?_
    obtain ⟨r6, N5, he7, h⟩ := h
    refine e_r_callV (a := 36) (av := [.inl v4]) (st := []) mqYX3_hasBought ml_RX10_284 cl_3 rfl (Nat.le_of_ble_eq_true rfl) (by simp [e_cat]) rfl rfl rfl dX10_cheapest_32 (pc' := 35) rfl he7 ⟨Nat.le_refl _, Nat.le_refl _⟩ hmo ?_
    obtain ⟨ht8, hf9⟩ := h
    refine e_r_if_ne (tgt := 66) (pc' := 38) dX10_cheapest_35 rfl rfl (fun c => ?_) (fun c => ?_)
    · have h := ht8 c
      refine e_r_iinc (pc' := 69) (loc' := [some (.inr (.inr 1)), some (.inl p1), some (.inl v2), some (.inl v3), some (.inl (e_w (v4 + 1))), none]) dX10_cheapest_66 rfl rfl rfl rfl rfl ?_
      refine e_r_goto (pc' := 14) dX10_cheapest_69 rfl ?_
      exact h
    · have h := hf9 c
      refine e_r_aload_n (pc' := 39) (by decide) dX10_cheapest_38 rfl rfl rfl ?_
      refine e_r_getr (k := 8) (q := 36) (pc' := 42) cl_10 rfl (Nat.le_of_ble_eq_true rfl) rfl rfl fl_RX10_58 rfl (Nat.le_of_ble_eq_true rfl) dX10_cheapest_39 rfl ?_
      refine e_r_iload (pc' := 44) dX10_cheapest_42 rfl rfl ?_
      obtain ⟨r11, N10, he12, h⟩ := h
      refine e_r_callV (a := 36) (av := [.inl v4]) (st := []) mqYX3_priceFor ml_RX10_272 cl_3 rfl (Nat.le_of_ble_eq_true rfl) (by simp [e_cat]) rfl rfl rfl dX10_cheapest_44 (pc' := 47) rfl he12 ⟨Nat.le_refl _, Nat.le_refl _⟩ hmo ?_
      refine e_r_istore (pc' := 49) (loc' := [some (.inr (.inr 1)), some (.inl p1), some (.inl v2), some (.inl v3), some (.inl v4), some (.inl r11)]) dX10_cheapest_47 rfl rfl rfl rfl ?_
      refine e_r_iload_n (pc' := 50) dX10_cheapest_49 rfl rfl rfl ?_
      refine e_r_iconst (pc' := 51) dX10_cheapest_50 rfl (by decide) ?_
      obtain ⟨ht13, hf14⟩ := h
      refine e_r_icmp_eq (tgt := 60) (pc' := 54) dX10_cheapest_51 rfl rfl (fun c => ?_) (fun c => ?_)
      · have h := ht13 c
        refine e_r_iload (pc' := 62) dX10_cheapest_60 rfl rfl ?_
        refine e_r_istore_n (pc' := 63) (loc' := [some (.inr (.inr 1)), some (.inl p1), some (.inl v4), some (.inl v3), some (.inl v4), some (.inl r11)]) dX10_cheapest_62 rfl rfl rfl rfl rfl ?_
        refine e_r_iload (pc' := 65) dX10_cheapest_63 rfl rfl ?_
        refine e_r_istore_n (pc' := 66) (loc' := [some (.inr (.inr 1)), some (.inl p1), some (.inl v4), some (.inl r11), some (.inl v4), some (.inl r11)]) dX10_cheapest_65 rfl rfl rfl rfl rfl ?_
        refine e_r_iinc (pc' := 69) (loc' := [some (.inr (.inr 1)), some (.inl p1), some (.inl v4), some (.inl r11), some (.inl (e_w (v4 + 1))), some (.inl r11)]) dX10_cheapest_66 rfl rfl rfl rfl rfl ?_
        refine e_r_goto (pc' := 14) dX10_cheapest_69 rfl ?_
        exact e_forget (m := [true, true, true, true, true, false]) h rfl
      · have h := hf14 c
        refine e_r_iload (pc' := 56) dX10_cheapest_54 rfl rfl ?_
        refine e_r_iload_n (pc' := 57) dX10_cheapest_56 rfl rfl rfl ?_
        obtain ⟨ht15, hf16⟩ := h
        refine e_r_icmp_ge (tgt := 66) (pc' := 60) dX10_cheapest_57 rfl rfl (fun c => ?_) (fun c => ?_)
        · have h := ht15 c
          refine e_r_iinc (pc' := 69) (loc' := [some (.inr (.inr 1)), some (.inl p1), some (.inl v2), some (.inl v3), some (.inl (e_w (v4 + 1))), some (.inl r11)]) dX10_cheapest_66 rfl rfl rfl rfl rfl ?_
          refine e_r_goto (pc' := 14) dX10_cheapest_69 rfl ?_
          exact e_forget (m := [true, true, true, true, true, false]) h rfl
        · have h := hf16 c
          refine e_r_iload (pc' := 62) dX10_cheapest_60 rfl rfl ?_
          refine e_r_istore_n (pc' := 63) (loc' := [some (.inr (.inr 1)), some (.inl p1), some (.inl v4), some (.inl v3), some (.inl v4), some (.inl r11)]) dX10_cheapest_62 rfl rfl rfl rfl rfl ?_
          refine e_r_iload (pc' := 65) dX10_cheapest_63 rfl rfl ?_
          refine e_r_istore_n (pc' := 66) (loc' := [some (.inr (.inr 1)), some (.inl p1), some (.inl v4), some (.inl r11), some (.inl v4), some (.inl r11)]) dX10_cheapest_65 rfl rfl rfl rfl rfl ?_
          refine e_r_iinc (pc' := 69) (loc' := [some (.inr (.inr 1)), some (.inl p1), some (.inl v4), some (.inl r11), some (.inl (e_w (v4 + 1))), some (.inl r11)]) dX10_cheapest_66 rfl rfl rfl rfl rfl ?_
          refine e_r_goto (pc' := 14) dX10_cheapest_69 rfl ?_
          exact e_forget (m := [true, true, true, true, true, false]) h rfl
theorem wp_X10_rush_0 {X : e_X} {d gn : Nat} {o : e_O} (M : e_M) (hmo : e_mn (557, gn, e_RF, M) o.2) (h : (∃ N1 : e_M, e_E X d YX3_copyFrom [.inr (.inr 43), .inr (.inr 36)] (557, gn, e_RF, M) (.inl none, (557, gn, e_RF, N1)) ∧ e_G X (d + 1) YX10_rush 13 [some (.inr (.inr 1)), some (.inl 0)] [] (557, gn, e_RF, N1) o)) : e_G X (d + 1) YX10_rush 0 [some (.inr (.inr 1)), none] [] (557, gn, e_RF, M) o := by
  refine e_r_aload_n (pc' := 1) (by decide) dX10_rush_0 rfl rfl rfl ?_
  refine e_r_getr (k := 9) (q := 43) (pc' := 4) cl_10 rfl (Nat.le_of_ble_eq_true rfl) rfl rfl fl_RX10_62 rfl (Nat.le_of_ble_eq_true rfl) dX10_rush_1 rfl ?_
  refine e_r_aload_n (pc' := 5) (by decide) dX10_rush_4 rfl rfl rfl ?_
  refine e_r_getr (k := 8) (q := 36) (pc' := 8) cl_10 rfl (Nat.le_of_ble_eq_true rfl) rfl rfl fl_RX10_58 rfl (Nat.le_of_ble_eq_true rfl) dX10_rush_5 rfl ?_
  obtain ⟨N1, he2, h⟩ := h
  refine e_r_callV (a := 43) (av := [.inr (.inr 36)]) (st := []) mqYX3_copyFrom ml_RX10_287 cl_3 rfl (Nat.le_of_ble_eq_true rfl) (by simp [e_cat]) rfl rfl rfl dX10_rush_8 (pc' := 11) rfl he2 ⟨Nat.le_refl _, Nat.le_refl _⟩ hmo ?_
  refine e_r_iconst (pc' := 12) dX10_rush_11 rfl (by decide) ?_
  refine e_r_istore_n (pc' := 13) (loc' := [some (.inr (.inr 1)), some (.inl 0)]) dX10_rush_12 rfl rfl rfl rfl rfl ?_
  exact h
theorem wp_X10_rush_13 {X : e_X} {d gn : Nat} {o : e_O} (M : e_M) (v1 : Int) (hmo : e_mn (557, gn, e_RF, M) o.2) (h : (((M 4 0) ≤ v1 → (∃ (r4 : Int) (N3 : e_M), e_E X d YX3_boughtBits [.inr (.inr 43)] (557, gn, e_RF, M) (.inl (some (.inl r4)), (557, gn, e_RF, N3)) ∧ (o = (.inl (some (.inl r4)), (557, gn, e_RF, N3))))) ∧ (¬ ((M 4 0) ≤ v1) → (∃ (r7 : Int) (N6 : e_M), e_E X d YX3_buyOff [.inr (.inr 43), .inl v1] (557, gn, e_RF, M) (.inl (some (.inl r7)), (557, gn, e_RF, N6)) ∧ e_G X (d + 1) YX10_rush 13 [some (.inr (.inr 1)), some (.inl (e_w (v1 + 1)))] [] (557, gn, e_RF, N6) o)))) : e_G X (d + 1) YX10_rush 13 [some (.inr (.inr 1)), some (.inl v1)] [] (557, gn, e_RF, M) o := by
  refine e_r_iload_n (pc' := 14) dX10_rush_13 rfl rfl rfl ?_
  refine e_r_aload_n (pc' := 15) (by decide) dX10_rush_14 rfl rfl rfl ?_
  refine e_r_getr (k := 1) (q := 4) (pc' := 18) cl_10 rfl (Nat.le_of_ble_eq_true rfl) rfl rfl fl_RX10_19 rfl (Nat.le_of_ble_eq_true rfl) dX10_rush_15 rfl ?_
  refine e_r_geti (k := 0) (pc' := 21) cl_8 rfl (Nat.le_of_ble_eq_true rfl) rfl rfl fl_RX10_155 dX10_rush_18 rfl ?_
  obtain ⟨ht1, hf2⟩ := h
  refine e_r_icmp_ge (tgt := 39) (pc' := 24) dX10_rush_21 rfl rfl (fun c => ?_) (fun c => ?_)
  · have h := ht1 c
    refine e_r_aload_n (pc' := 40) (by decide) dX10_rush_39 rfl rfl rfl ?_
    refine e_r_getr (k := 9) (q := 43) (pc' := 43) cl_10 rfl (Nat.le_of_ble_eq_true rfl) rfl rfl fl_RX10_62 rfl (Nat.le_of_ble_eq_true rfl) dX10_rush_40 rfl ?_
    obtain ⟨r4, N3, he5, h⟩ := h
    refine e_r_callV (a := 43) (av := []) (st := []) mqYX3_boughtBits ml_RX10_204 cl_3 rfl (Nat.le_of_ble_eq_true rfl) (by simp [e_cat]) rfl rfl rfl dX10_rush_43 (pc' := 46) rfl he5 ⟨Nat.le_refl _, Nat.le_refl _⟩ hmo ?_
    exact e_r_iret (ty := .int) rfl (e_nI _) dX10_rush_46 h
  · have h := hf2 c
    refine e_r_aload_n (pc' := 25) (by decide) dX10_rush_24 rfl rfl rfl ?_
    refine e_r_getr (k := 9) (q := 43) (pc' := 28) cl_10 rfl (Nat.le_of_ble_eq_true rfl) rfl rfl fl_RX10_62 rfl (Nat.le_of_ble_eq_true rfl) dX10_rush_25 rfl ?_
    refine e_r_iload_n (pc' := 29) dX10_rush_28 rfl rfl rfl ?_
    obtain ⟨r7, N6, he8, h⟩ := h
    refine e_r_callV (a := 43) (av := [.inl v1]) (st := []) mqYX3_buyOff ml_RX10_289 cl_3 rfl (Nat.le_of_ble_eq_true rfl) (by simp [e_cat]) rfl rfl rfl dX10_rush_29 (pc' := 32) rfl he8 ⟨Nat.le_refl _, Nat.le_refl _⟩ hmo ?_
    refine e_r_pop (pc' := 33) rfl dX10_rush_32 rfl ?_
    refine e_r_iinc (pc' := 36) (loc' := [some (.inr (.inr 1)), some (.inl (e_w (v1 + 1)))]) dX10_rush_33 rfl rfl rfl rfl rfl ?_
    refine e_r_goto (pc' := 13) dX10_rush_36 rfl ?_
    exact h
theorem wp_X10_back_0 {X : e_X} {d gn : Nat} {o : e_O} (M : e_M) (p1 : Int) (hmo : e_mn (557, gn, e_RF, M) o.2) (h : ((∃ N1 : e_M, e_E X d YX10_needPerson [.inr (.inr 1), .inl p1] (557, gn, e_RF, M) (.inl none, (557, gn, e_RF, N1)) ∧ (∃ (r6 : Int) (N5 : e_M), e_E X d YX3_hasBought [.inr (.inr 36), .inl p1] (557, gn, e_RF, N1) (.inl (some (.inl r6)), (557, gn, e_RF, N5)) ∧ ((r6 = 0 → (o = (.inl (some (.inl (-1))), (557, gn, e_RF, N5)))) ∧ (¬ (r6 = 0) → ((0 ≤ p1 ∧ p1 < 6) ∧ (o = (.inl (some (.inl (e_w (Int.tdiv (N5 40 p1.toNat) 2)))), (557, gn, e_RF, N5)))))))) ∨ (∃ (z3 : Nat) (N4 : e_M), e_E X d YX10_needPerson [.inr (.inr 1), .inl p1] (557, gn, e_RF, M) (.inr z3, (557, gn + 1, e_RF, N4)) ∧ o = (.inr z3, (557, gn + 1, e_RF, N4))))) : e_G X (d + 1) YX10_back 0 [some (.inr (.inr 1)), some (.inl p1)] [] (557, gn, e_RF, M) o := by
  refine e_r_aload_n (pc' := 1) (by decide) dX10_back_0 rfl rfl rfl ?_
  refine e_r_iload_n (pc' := 2) dX10_back_1 rfl rfl rfl ?_
  rcases h with ⟨N1, he2, h⟩ | ⟨z3, N4, he2, h⟩
  · refine e_r_callV (a := 1) (av := [.inl p1]) (st := []) mqYX10_needPerson ml_RX10_222 cl_10 rfl (Nat.le_of_ble_eq_true rfl) (by simp [e_cat]) rfl rfl rfl dX10_back_2 (pc' := 5) rfl he2 ⟨Nat.le_refl _, Nat.le_refl _⟩ hmo ?_
    refine e_r_aload_n (pc' := 6) (by decide) dX10_back_5 rfl rfl rfl ?_
    refine e_r_getr (k := 8) (q := 36) (pc' := 9) cl_10 rfl (Nat.le_of_ble_eq_true rfl) rfl rfl fl_RX10_58 rfl (Nat.le_of_ble_eq_true rfl) dX10_back_6 rfl ?_
    refine e_r_iload_n (pc' := 10) dX10_back_9 rfl rfl rfl ?_
    obtain ⟨r6, N5, he7, h⟩ := h
    refine e_r_callV (a := 36) (av := [.inl p1]) (st := []) mqYX3_hasBought ml_RX10_284 cl_3 rfl (Nat.le_of_ble_eq_true rfl) (by simp [e_cat]) rfl rfl rfl dX10_back_10 (pc' := 13) rfl he7 ⟨Nat.le_refl _, Nat.le_refl _⟩ hmo ?_
    obtain ⟨ht8, hf9⟩ := h
    refine e_r_if_eq (tgt := 30) (pc' := 16) dX10_back_13 rfl rfl (fun c => ?_) (fun c => ?_)
    · have h := ht8 c
      refine e_r_iconst (pc' := 31) dX10_back_30 rfl (by decide) ?_
      exact e_r_iret (ty := .int) rfl (e_nI _) dX10_back_31 h
    · have h := hf9 c
      refine e_r_aload_n (pc' := 17) (by decide) dX10_back_16 rfl rfl rfl ?_
      refine e_r_getr (k := 8) (q := 36) (pc' := 20) cl_10 rfl (Nat.le_of_ble_eq_true rfl) rfl rfl fl_RX10_58 rfl (Nat.le_of_ble_eq_true rfl) dX10_back_17 rfl ?_
      refine e_r_getr (k := 8) (q := 40) (pc' := 23) cl_3 rfl (Nat.le_of_ble_eq_true rfl) rfl rfl fl_RX10_241 rfl (Nat.le_of_ble_eq_true rfl) dX10_back_20 rfl ?_
      refine e_r_iload_n (pc' := 24) dX10_back_23 rfl rfl rfl ?_
      obtain ⟨hb10, h⟩ := h
      refine e_r_iald (j9 := p1.toNat) (pc' := 25) rfl (Nat.le_of_ble_eq_true rfl) hb10.1 hb10.2 rfl dX10_back_24 rfl ?_
      refine e_r_iconst (pc' := 26) dX10_back_25 rfl (by decide) ?_
      refine e_r_idiv (pc' := 27) (by decide) dX10_back_26 rfl ?_
      refine e_r_goto (pc' := 31) dX10_back_27 rfl ?_
      exact e_r_iret (ty := .int) rfl (e_nI _) dX10_back_31 h
  · exact e_r_callVx (a := 1) (av := [.inl p1]) (st := []) mqYX10_needPerson ml_RX10_222 cl_10 rfl (Nat.le_of_ble_eq_true rfl) (by simp [e_cat]) rfl rfl rfl dX10_back_2 rfl he2 ⟨Nat.le_refl _, Nat.le_succ _⟩ h
theorem wp_X10_ahead_0 {X : e_X} {d gn : Nat} {o : e_O} (M : e_M) (p1 p2 : Int) (hmo : e_mn (557, gn, e_RF, M) o.2) (h : ((∃ N1 : e_M, e_E X d YX10_needWithin [.inr (.inr 1), .inl p1, .inl 0, .inl 99] (557, gn, e_RF, M) (.inl none, (557, gn, e_RF, N1)) ∧ ((∃ N5 : e_M, e_E X d YX10_needWithin [.inr (.inr 1), .inl p2, .inl 0, .inl 2] (557, gn, e_RF, N1) (.inl none, (557, gn, e_RF, N5)) ∧ (∃ N9 : e_M, e_E X d YX10_tryWeeks [.inr (.inr 1), .inl p1] (557, gn, e_RF, N5) (.inl none, (557, gn, e_RF, N9)) ∧ ((p2 = 0 → (∃ (r16 : Int) (N15 : e_M), e_E X d YX3_coinsOfAll [.inr (.inr 43)] (557, gn, e_RF, N9) (.inl (some (.inl r16)), (557, gn, e_RF, N15)) ∧ (o = (.inl (some (.inl r16)), (557, gn, e_RF, N15))))) ∧ (p2 = 1 → (∃ (r20 : Int) (N19 : e_M), e_E X d YX3_daysOfAll [.inr (.inr 43)] (557, gn, e_RF, N9) (.inl (some (.inl r20)), (557, gn, e_RF, N19)) ∧ (o = (.inl (some (.inl r20)), (557, gn, e_RF, N19))))) ∧ (¬ p2 = 0 ∧ ¬ p2 = 1 → (o = (.inl (some (.inl (N9 43 4))), (557, gn, e_RF, N9))))))) ∨ (∃ (z7 : Nat) (N8 : e_M), e_E X d YX10_needWithin [.inr (.inr 1), .inl p2, .inl 0, .inl 2] (557, gn, e_RF, N1) (.inr z7, (557, gn + 1, e_RF, N8)) ∧ o = (.inr z7, (557, gn + 1, e_RF, N8))))) ∨ (∃ (z3 : Nat) (N4 : e_M), e_E X d YX10_needWithin [.inr (.inr 1), .inl p1, .inl 0, .inl 99] (557, gn, e_RF, M) (.inr z3, (557, gn + 1, e_RF, N4)) ∧ o = (.inr z3, (557, gn + 1, e_RF, N4))))) : e_G X (d + 1) YX10_ahead 0 [some (.inr (.inr 1)), some (.inl p1), some (.inl p2)] [] (557, gn, e_RF, M) o := by
  refine e_r_aload_n (pc' := 1) (by decide) dX10_ahead_0 rfl rfl rfl ?_
  refine e_r_iload_n (pc' := 2) dX10_ahead_1 rfl rfl rfl ?_
  refine e_r_iconst (pc' := 3) dX10_ahead_2 rfl (by decide) ?_
  refine e_r_bipush (pc' := 5) dX10_ahead_3 rfl (by decide) ?_
  rcases h with ⟨N1, he2, h⟩ | ⟨z3, N4, he2, h⟩
  · refine e_r_callV (a := 1) (av := [.inl p1, .inl 0, .inl 99]) (st := []) mqYX10_needWithin ml_RX10_191 cl_10 rfl (Nat.le_of_ble_eq_true rfl) (by simp [e_cat]) rfl rfl rfl dX10_ahead_5 (pc' := 8) rfl he2 ⟨Nat.le_refl _, Nat.le_refl _⟩ hmo ?_
    refine e_r_aload_n (pc' := 9) (by decide) dX10_ahead_8 rfl rfl rfl ?_
    refine e_r_iload_n (pc' := 10) dX10_ahead_9 rfl rfl rfl ?_
    refine e_r_iconst (pc' := 11) dX10_ahead_10 rfl (by decide) ?_
    refine e_r_iconst (pc' := 12) dX10_ahead_11 rfl (by decide) ?_
    rcases h with ⟨N5, he6, h⟩ | ⟨z7, N8, he6, h⟩
    · refine e_r_callV (a := 1) (av := [.inl p2, .inl 0, .inl 2]) (st := []) mqYX10_needWithin ml_RX10_191 cl_10 rfl (Nat.le_of_ble_eq_true rfl) (by simp [e_cat]) rfl rfl rfl dX10_ahead_12 (pc' := 15) rfl he6 ⟨Nat.le_refl _, Nat.le_refl _⟩ hmo ?_
      refine e_r_aload_n (pc' := 16) (by decide) dX10_ahead_15 rfl rfl rfl ?_
      refine e_r_iload_n (pc' := 17) dX10_ahead_16 rfl rfl rfl ?_
      obtain ⟨N9, he10, h⟩ := h
      refine e_r_callV (a := 1) (av := [.inl p1]) (st := []) mqYX10_tryWeeks ml_RX10_292 cl_10 rfl (Nat.le_of_ble_eq_true rfl) (by simp [e_cat]) rfl rfl rfl dX10_ahead_17 (pc' := 20) rfl he10 ⟨Nat.le_refl _, Nat.le_refl _⟩ hmo ?_
      refine e_r_iload_n (pc' := 21) dX10_ahead_20 rfl rfl rfl ?_
      obtain ⟨hk11, hk12, hd13⟩ := h
      by_cases c14 : p2 = 0
      · have h := hk11 c14
        refine e_r_lookup (pc' := 48) dX10_ahead_21 rfl 27 (by rw [c14]; rfl) rfl ?_
        refine e_r_aload_n (pc' := 49) (by decide) dX10_ahead_48 rfl rfl rfl ?_
        refine e_r_getr (k := 9) (q := 43) (pc' := 52) cl_10 rfl (Nat.le_of_ble_eq_true rfl) rfl rfl fl_RX10_62 rfl (Nat.le_of_ble_eq_true rfl) dX10_ahead_49 rfl ?_
        obtain ⟨r16, N15, he17, h⟩ := h
        refine e_r_callV (a := 43) (av := []) (st := []) mqYX3_coinsOfAll ml_RX10_213 cl_3 rfl (Nat.le_of_ble_eq_true rfl) (by simp [e_cat]) rfl rfl rfl dX10_ahead_52 (pc' := 55) rfl he17 ⟨Nat.le_refl _, Nat.le_refl _⟩ hmo ?_
        exact e_r_iret (ty := .int) rfl (e_nI _) dX10_ahead_55 h
      by_cases c18 : p2 = 1
      · have h := hk12 c18
        refine e_r_lookup (pc' := 56) dX10_ahead_21 rfl 35 (by rw [c18]; rfl) rfl ?_
        refine e_r_aload_n (pc' := 57) (by decide) dX10_ahead_56 rfl rfl rfl ?_
        refine e_r_getr (k := 9) (q := 43) (pc' := 60) cl_10 rfl (Nat.le_of_ble_eq_true rfl) rfl rfl fl_RX10_62 rfl (Nat.le_of_ble_eq_true rfl) dX10_ahead_57 rfl ?_
        obtain ⟨r20, N19, he21, h⟩ := h
        refine e_r_callV (a := 43) (av := []) (st := []) mqYX3_daysOfAll ml_RX10_216 cl_3 rfl (Nat.le_of_ble_eq_true rfl) (by simp [e_cat]) rfl rfl rfl dX10_ahead_60 (pc' := 63) rfl he21 ⟨Nat.le_refl _, Nat.le_refl _⟩ hmo ?_
        exact e_r_iret (ty := .int) rfl (e_nI _) dX10_ahead_63 h
      have h := hd13 ⟨c14, c18⟩
      refine e_r_lookup (pc' := 64) dX10_ahead_21 rfl 43 (by simp [Op.lookupswitch.offset, show ¬ (0 : Int) = p2 from fun z => c14 z.symm, show ¬ (1 : Int) = p2 from fun z => c18 z.symm]) rfl ?_
      refine e_r_aload_n (pc' := 65) (by decide) dX10_ahead_64 rfl rfl rfl ?_
      refine e_r_getr (k := 9) (q := 43) (pc' := 68) cl_10 rfl (Nat.le_of_ble_eq_true rfl) rfl rfl fl_RX10_62 rfl (Nat.le_of_ble_eq_true rfl) dX10_ahead_65 rfl ?_
      refine e_r_geti (k := 4) (pc' := 71) cl_3 rfl (Nat.le_of_ble_eq_true rfl) rfl rfl fl_RX10_207 dX10_ahead_68 rfl ?_
      exact e_r_iret (ty := .int) rfl (e_nI _) dX10_ahead_71 h
    · exact e_r_callVx (a := 1) (av := [.inl p2, .inl 0, .inl 2]) (st := []) mqYX10_needWithin ml_RX10_191 cl_10 rfl (Nat.le_of_ble_eq_true rfl) (by simp [e_cat]) rfl rfl rfl dX10_ahead_12 rfl he6 ⟨Nat.le_refl _, Nat.le_succ _⟩ h
  · exact e_r_callVx (a := 1) (av := [.inl p1, .inl 0, .inl 99]) (st := []) mqYX10_needWithin ml_RX10_191 cl_10 rfl (Nat.le_of_ble_eq_true rfl) (by simp [e_cat]) rfl rfl rfl dX10_ahead_5 rfl he2 ⟨Nat.le_refl _, Nat.le_succ _⟩ h
theorem wp_X10_loses_0 {X : e_X} {d gn : Nat} {o : e_O} (M : e_M) (p1 : Int) (hmo : e_mn (557, gn, e_RF, M) o.2) (h : ((∃ N1 : e_M, e_E X d YX10_needWithin [.inr (.inr 1), .inl p1, .inl 0, .inl 99] (557, gn, e_RF, M) (.inl none, (557, gn, e_RF, N1)) ∧ (∃ N5 : e_M, e_E X d YX10_tryWeeks [.inr (.inr 1), .inl p1] (557, gn, e_RF, N1) (.inl none, (557, gn, e_RF, N5)) ∧ (o = (.inl (some (.inl (e_w ((N5 43 3) - (N5 36 3))))), (557, gn, e_RF, N5))))) ∨ (∃ (z3 : Nat) (N4 : e_M), e_E X d YX10_needWithin [.inr (.inr 1), .inl p1, .inl 0, .inl 99] (557, gn, e_RF, M) (.inr z3, (557, gn + 1, e_RF, N4)) ∧ o = (.inr z3, (557, gn + 1, e_RF, N4))))) : e_G X (d + 1) YX10_loses 0 [some (.inr (.inr 1)), some (.inl p1)] [] (557, gn, e_RF, M) o := by
  refine e_r_aload_n (pc' := 1) (by decide) dX10_loses_0 rfl rfl rfl ?_
  refine e_r_iload_n (pc' := 2) dX10_loses_1 rfl rfl rfl ?_
  refine e_r_iconst (pc' := 3) dX10_loses_2 rfl (by decide) ?_
  refine e_r_bipush (pc' := 5) dX10_loses_3 rfl (by decide) ?_
  rcases h with ⟨N1, he2, h⟩ | ⟨z3, N4, he2, h⟩
  · refine e_r_callV (a := 1) (av := [.inl p1, .inl 0, .inl 99]) (st := []) mqYX10_needWithin ml_RX10_191 cl_10 rfl (Nat.le_of_ble_eq_true rfl) (by simp [e_cat]) rfl rfl rfl dX10_loses_5 (pc' := 8) rfl he2 ⟨Nat.le_refl _, Nat.le_refl _⟩ hmo ?_
    refine e_r_aload_n (pc' := 9) (by decide) dX10_loses_8 rfl rfl rfl ?_
    refine e_r_iload_n (pc' := 10) dX10_loses_9 rfl rfl rfl ?_
    obtain ⟨N5, he6, h⟩ := h
    refine e_r_callV (a := 1) (av := [.inl p1]) (st := []) mqYX10_tryWeeks ml_RX10_292 cl_10 rfl (Nat.le_of_ble_eq_true rfl) (by simp [e_cat]) rfl rfl rfl dX10_loses_10 (pc' := 13) rfl he6 ⟨Nat.le_refl _, Nat.le_refl _⟩ hmo ?_
    refine e_r_aload_n (pc' := 14) (by decide) dX10_loses_13 rfl rfl rfl ?_
    refine e_r_getr (k := 9) (q := 43) (pc' := 17) cl_10 rfl (Nat.le_of_ble_eq_true rfl) rfl rfl fl_RX10_62 rfl (Nat.le_of_ble_eq_true rfl) dX10_loses_14 rfl ?_
    refine e_r_geti (k := 3) (pc' := 20) cl_3 rfl (Nat.le_of_ble_eq_true rfl) rfl rfl fl_RX10_210 dX10_loses_17 rfl ?_
    refine e_r_aload_n (pc' := 21) (by decide) dX10_loses_20 rfl rfl rfl ?_
    refine e_r_getr (k := 8) (q := 36) (pc' := 24) cl_10 rfl (Nat.le_of_ble_eq_true rfl) rfl rfl fl_RX10_58 rfl (Nat.le_of_ble_eq_true rfl) dX10_loses_21 rfl ?_
    refine e_r_geti (k := 3) (pc' := 27) cl_3 rfl (Nat.le_of_ble_eq_true rfl) rfl rfl fl_RX10_210 dX10_loses_24 rfl ?_
    refine e_r_isub (pc' := 28) dX10_loses_27 rfl ?_
    exact e_r_iret (ty := .int) rfl (e_nI _) dX10_loses_28 h
  · exact e_r_callVx (a := 1) (av := [.inl p1, .inl 0, .inl 99]) (st := []) mqYX10_needWithin ml_RX10_191 cl_10 rfl (Nat.le_of_ble_eq_true rfl) (by simp [e_cat]) rfl rfl rfl dX10_loses_5 rfl he2 ⟨Nat.le_refl _, Nat.le_succ _⟩ h
theorem wp_X10_spare_0 {X : e_X} {d gn : Nat} {o : e_O} (M : e_M) (p1 p2 : Int) (hmo : e_mn (557, gn, e_RF, M) o.2) (h : ((∃ N1 : e_M, e_E X d YX10_needPerson [.inr (.inr 1), .inl p1] (557, gn, e_RF, M) (.inl none, (557, gn, e_RF, N1)) ∧ ((∃ N5 : e_M, e_E X d YX10_needWithin [.inr (.inr 1), .inl p2, .inl 0, .inl 99] (557, gn, e_RF, N1) (.inl none, (557, gn, e_RF, N5)) ∧ ((0 ≤ p1 ∧ p1 < 6) ∧ ((0 ≤ p1 ∧ p1 < 6) ∧ (o = (.inl (some (.inl (min 999 (e_w ((N5 37 p1.toNat) + (e_w (p2 * (N5 6 p1.toNat)))))))), (557, gn, e_RF, N5)))))) ∨ (∃ (z7 : Nat) (N8 : e_M), e_E X d YX10_needWithin [.inr (.inr 1), .inl p2, .inl 0, .inl 99] (557, gn, e_RF, N1) (.inr z7, (557, gn + 1, e_RF, N8)) ∧ o = (.inr z7, (557, gn + 1, e_RF, N8))))) ∨ (∃ (z3 : Nat) (N4 : e_M), e_E X d YX10_needPerson [.inr (.inr 1), .inl p1] (557, gn, e_RF, M) (.inr z3, (557, gn + 1, e_RF, N4)) ∧ o = (.inr z3, (557, gn + 1, e_RF, N4))))) : e_G X (d + 1) YX10_spare 0 [some (.inr (.inr 1)), some (.inl p1), some (.inl p2)] [] (557, gn, e_RF, M) o := by
  refine e_r_aload_n (pc' := 1) (by decide) dX10_spare_0 rfl rfl rfl ?_
  refine e_r_iload_n (pc' := 2) dX10_spare_1 rfl rfl rfl ?_
  rcases h with ⟨N1, he2, h⟩ | ⟨z3, N4, he2, h⟩
  · refine e_r_callV (a := 1) (av := [.inl p1]) (st := []) mqYX10_needPerson ml_RX10_222 cl_10 rfl (Nat.le_of_ble_eq_true rfl) (by simp [e_cat]) rfl rfl rfl dX10_spare_2 (pc' := 5) rfl he2 ⟨Nat.le_refl _, Nat.le_refl _⟩ hmo ?_
    refine e_r_aload_n (pc' := 6) (by decide) dX10_spare_5 rfl rfl rfl ?_
    refine e_r_iload_n (pc' := 7) dX10_spare_6 rfl rfl rfl ?_
    refine e_r_iconst (pc' := 8) dX10_spare_7 rfl (by decide) ?_
    refine e_r_bipush (pc' := 10) dX10_spare_8 rfl (by decide) ?_
    rcases h with ⟨N5, he6, h⟩ | ⟨z7, N8, he6, h⟩
    · refine e_r_callV (a := 1) (av := [.inl p2, .inl 0, .inl 99]) (st := []) mqYX10_needWithin ml_RX10_191 cl_10 rfl (Nat.le_of_ble_eq_true rfl) (by simp [e_cat]) rfl rfl rfl dX10_spare_10 (pc' := 13) rfl he6 ⟨Nat.le_refl _, Nat.le_refl _⟩ hmo ?_
      refine e_r_sipush (pc' := 16) dX10_spare_13 rfl (by decide) ?_
      refine e_r_aload_n (pc' := 17) (by decide) dX10_spare_16 rfl rfl rfl ?_
      refine e_r_getr (k := 8) (q := 36) (pc' := 20) cl_10 rfl (Nat.le_of_ble_eq_true rfl) rfl rfl fl_RX10_58 rfl (Nat.le_of_ble_eq_true rfl) dX10_spare_17 rfl ?_
      refine e_r_getr (k := 5) (q := 37) (pc' := 23) cl_3 rfl (Nat.le_of_ble_eq_true rfl) rfl rfl fl_RX10_225 rfl (Nat.le_of_ble_eq_true rfl) dX10_spare_20 rfl ?_
      refine e_r_iload_n (pc' := 24) dX10_spare_23 rfl rfl rfl ?_
      obtain ⟨hb9, h⟩ := h
      refine e_r_iald (j9 := p1.toNat) (pc' := 25) rfl (Nat.le_of_ble_eq_true rfl) hb9.1 hb9.2 rfl dX10_spare_24 rfl ?_
      refine e_r_iload_n (pc' := 26) dX10_spare_25 rfl rfl rfl ?_
      refine e_r_aload_n (pc' := 27) (by decide) dX10_spare_26 rfl rfl rfl ?_
      refine e_r_getr (k := 1) (q := 4) (pc' := 30) cl_10 rfl (Nat.le_of_ble_eq_true rfl) rfl rfl fl_RX10_19 rfl (Nat.le_of_ble_eq_true rfl) dX10_spare_27 rfl ?_
      refine e_r_getr (k := 4) (q := 6) (pc' := 33) cl_8 rfl (Nat.le_of_ble_eq_true rfl) rfl rfl fl_RX10_229 rfl (Nat.le_of_ble_eq_true rfl) dX10_spare_30 rfl ?_
      refine e_r_iload_n (pc' := 34) dX10_spare_33 rfl rfl rfl ?_
      obtain ⟨hb10, h⟩ := h
      refine e_r_iald (j9 := p1.toNat) (pc' := 35) rfl (Nat.le_of_ble_eq_true rfl) hb10.1 hb10.2 rfl dX10_spare_34 rfl ?_
      refine e_r_imul (pc' := 36) dX10_spare_35 rfl ?_
      refine e_r_iadd (pc' := 37) dX10_spare_36 rfl ?_
      refine e_r_min (pc' := 40) lk_RX10_295 rfl dX10_spare_37 rfl ?_
      exact e_r_iret (ty := .int) rfl (e_nI _) dX10_spare_40 h
    · exact e_r_callVx (a := 1) (av := [.inl p2, .inl 0, .inl 99]) (st := []) mqYX10_needWithin ml_RX10_191 cl_10 rfl (Nat.le_of_ble_eq_true rfl) (by simp [e_cat]) rfl rfl rfl dX10_spare_10 rfl he6 ⟨Nat.le_refl _, Nat.le_succ _⟩ h
  · exact e_r_callVx (a := 1) (av := [.inl p1]) (st := []) mqYX10_needPerson ml_RX10_222 cl_10 rfl (Nat.le_of_ble_eq_true rfl) (by simp [e_cat]) rfl rfl rfl dX10_spare_2 rfl he2 ⟨Nat.le_refl _, Nat.le_succ _⟩ h
theorem wp_X10_skips_0 {X : e_X} {d gn : Nat} {o : e_O} (M : e_M) (p1 p2 p3 : Int) (hmo : e_mn (557, gn, e_RF, M) o.2) (h : ((∃ N1 : e_M, e_E X d YX10_needPerson [.inr (.inr 1), .inl p1] (557, gn, e_RF, M) (.inl none, (557, gn, e_RF, N1)) ∧ ((∃ N5 : e_M, e_E X d YX10_needWithin [.inr (.inr 1), .inl p2, .inl 0, .inl 10] (557, gn, e_RF, N1) (.inl none, (557, gn, e_RF, N5)) ∧ ((∃ N9 : e_M, e_E X d YX10_needWithin [.inr (.inr 1), .inl p3, .inl 0, .inl 1] (557, gn, e_RF, N5) (.inl none, (557, gn, e_RF, N9)) ∧ (∃ N13 : e_M, e_E X d YX6_searchFor [.inr (.inr 53), .inr (.inr 36), .inl p1, .inl p2] (557, gn, e_RF, N9) (.inl none, (557, gn, e_RF, N13)) ∧ ((¬ p3 = 0 → (o = (.inl (some (.inl (N13 53 8))), (557, gn, e_RF, N13)))) ∧ (p3 = 0 → (o = (.inl (some (.inl (N13 53 7))), (557, gn, e_RF, N13))))))) ∨ (∃ (z11 : Nat) (N12 : e_M), e_E X d YX10_needWithin [.inr (.inr 1), .inl p3, .inl 0, .inl 1] (557, gn, e_RF, N5) (.inr z11, (557, gn + 1, e_RF, N12)) ∧ o = (.inr z11, (557, gn + 1, e_RF, N12))))) ∨ (∃ (z7 : Nat) (N8 : e_M), e_E X d YX10_needWithin [.inr (.inr 1), .inl p2, .inl 0, .inl 10] (557, gn, e_RF, N1) (.inr z7, (557, gn + 1, e_RF, N8)) ∧ o = (.inr z7, (557, gn + 1, e_RF, N8))))) ∨ (∃ (z3 : Nat) (N4 : e_M), e_E X d YX10_needPerson [.inr (.inr 1), .inl p1] (557, gn, e_RF, M) (.inr z3, (557, gn + 1, e_RF, N4)) ∧ o = (.inr z3, (557, gn + 1, e_RF, N4))))) : e_G X (d + 1) YX10_skips 0 [some (.inr (.inr 1)), some (.inl p1), some (.inl p2), some (.inl p3)] [] (557, gn, e_RF, M) o := by
  refine e_r_aload_n (pc' := 1) (by decide) dX10_skips_0 rfl rfl rfl ?_
  refine e_r_iload_n (pc' := 2) dX10_skips_1 rfl rfl rfl ?_
  rcases h with ⟨N1, he2, h⟩ | ⟨z3, N4, he2, h⟩
  · refine e_r_callV (a := 1) (av := [.inl p1]) (st := []) mqYX10_needPerson ml_RX10_222 cl_10 rfl (Nat.le_of_ble_eq_true rfl) (by simp [e_cat]) rfl rfl rfl dX10_skips_2 (pc' := 5) rfl he2 ⟨Nat.le_refl _, Nat.le_refl _⟩ hmo ?_
    refine e_r_aload_n (pc' := 6) (by decide) dX10_skips_5 rfl rfl rfl ?_
    refine e_r_iload_n (pc' := 7) dX10_skips_6 rfl rfl rfl ?_
    refine e_r_iconst (pc' := 8) dX10_skips_7 rfl (by decide) ?_
    refine e_r_bipush (pc' := 10) dX10_skips_8 rfl (by decide) ?_
    rcases h with ⟨N5, he6, h⟩ | ⟨z7, N8, he6, h⟩
    · refine e_r_callV (a := 1) (av := [.inl p2, .inl 0, .inl 10]) (st := []) mqYX10_needWithin ml_RX10_191 cl_10 rfl (Nat.le_of_ble_eq_true rfl) (by simp [e_cat]) rfl rfl rfl dX10_skips_10 (pc' := 13) rfl he6 ⟨Nat.le_refl _, Nat.le_refl _⟩ hmo ?_
      refine e_r_aload_n (pc' := 14) (by decide) dX10_skips_13 rfl rfl rfl ?_
      refine e_r_iload_n (pc' := 15) dX10_skips_14 rfl rfl rfl ?_
      refine e_r_iconst (pc' := 16) dX10_skips_15 rfl (by decide) ?_
      refine e_r_iconst (pc' := 17) dX10_skips_16 rfl (by decide) ?_
      rcases h with ⟨N9, he10, h⟩ | ⟨z11, N12, he10, h⟩
      · refine e_r_callV (a := 1) (av := [.inl p3, .inl 0, .inl 1]) (st := []) mqYX10_needWithin ml_RX10_191 cl_10 rfl (Nat.le_of_ble_eq_true rfl) (by simp [e_cat]) rfl rfl rfl dX10_skips_17 (pc' := 20) rfl he10 ⟨Nat.le_refl _, Nat.le_refl _⟩ hmo ?_
        refine e_r_aload_n (pc' := 21) (by decide) dX10_skips_20 rfl rfl rfl ?_
        refine e_r_getr (k := 11) (q := 53) (pc' := 24) cl_10 rfl (Nat.le_of_ble_eq_true rfl) rfl rfl fl_RX10_77 rfl (Nat.le_of_ble_eq_true rfl) dX10_skips_21 rfl ?_
        refine e_r_aload_n (pc' := 25) (by decide) dX10_skips_24 rfl rfl rfl ?_
        refine e_r_getr (k := 8) (q := 36) (pc' := 28) cl_10 rfl (Nat.le_of_ble_eq_true rfl) rfl rfl fl_RX10_58 rfl (Nat.le_of_ble_eq_true rfl) dX10_skips_25 rfl ?_
        refine e_r_iload_n (pc' := 29) dX10_skips_28 rfl rfl rfl ?_
        refine e_r_iload_n (pc' := 30) dX10_skips_29 rfl rfl rfl ?_
        obtain ⟨N13, he14, h⟩ := h
        refine e_r_callV (a := 53) (av := [.inr (.inr 36), .inl p1, .inl p2]) (st := []) mqYX6_searchFor ml_RX10_301 cl_6 rfl (Nat.le_of_ble_eq_true rfl) (by simp [e_cat]) rfl rfl rfl dX10_skips_30 (pc' := 33) rfl he14 ⟨Nat.le_refl _, Nat.le_refl _⟩ hmo ?_
        refine e_r_iload_n (pc' := 34) dX10_skips_33 rfl rfl rfl ?_
        obtain ⟨ht15, hf16⟩ := h
        refine e_r_if_ne (tgt := 47) (pc' := 37) dX10_skips_34 rfl rfl (fun c => ?_) (fun c => ?_)
        · have h := ht15 c
          refine e_r_aload_n (pc' := 48) (by decide) dX10_skips_47 rfl rfl rfl ?_
          refine e_r_getr (k := 11) (q := 53) (pc' := 51) cl_10 rfl (Nat.le_of_ble_eq_true rfl) rfl rfl fl_RX10_77 rfl (Nat.le_of_ble_eq_true rfl) dX10_skips_48 rfl ?_
          refine e_r_geti (k := 8) (pc' := 54) cl_6 rfl (Nat.le_of_ble_eq_true rfl) rfl rfl fl_RX10_308 dX10_skips_51 rfl ?_
          exact e_r_iret (ty := .int) rfl (e_nI _) dX10_skips_54 h
        · have h := hf16 c
          refine e_r_aload_n (pc' := 38) (by decide) dX10_skips_37 rfl rfl rfl ?_
          refine e_r_getr (k := 11) (q := 53) (pc' := 41) cl_10 rfl (Nat.le_of_ble_eq_true rfl) rfl rfl fl_RX10_77 rfl (Nat.le_of_ble_eq_true rfl) dX10_skips_38 rfl ?_
          refine e_r_geti (k := 7) (pc' := 44) cl_6 rfl (Nat.le_of_ble_eq_true rfl) rfl rfl fl_RX10_305 dX10_skips_41 rfl ?_
          refine e_r_goto (pc' := 54) dX10_skips_44 rfl ?_
          exact e_r_iret (ty := .int) rfl (e_nI _) dX10_skips_54 h
      · exact e_r_callVx (a := 1) (av := [.inl p3, .inl 0, .inl 1]) (st := []) mqYX10_needWithin ml_RX10_191 cl_10 rfl (Nat.le_of_ble_eq_true rfl) (by simp [e_cat]) rfl rfl rfl dX10_skips_17 rfl he10 ⟨Nat.le_refl _, Nat.le_succ _⟩ h
    · exact e_r_callVx (a := 1) (av := [.inl p2, .inl 0, .inl 10]) (st := []) mqYX10_needWithin ml_RX10_191 cl_10 rfl (Nat.le_of_ble_eq_true rfl) (by simp [e_cat]) rfl rfl rfl dX10_skips_10 rfl he6 ⟨Nat.le_refl _, Nat.le_succ _⟩ h
  · exact e_r_callVx (a := 1) (av := [.inl p1]) (st := []) mqYX10_needPerson ml_RX10_222 cl_10 rfl (Nat.le_of_ble_eq_true rfl) (by simp [e_cat]) rfl rfl rfl dX10_skips_2 rfl he2 ⟨Nat.le_refl _, Nat.le_succ _⟩ h
theorem wp_X10_year_0 {X : e_X} {d gn : Nat} {o : e_O} (M : e_M) (p1 p2 p3 p4 p5 : Int) (hmo : e_mn (557, gn, e_RF, M) o.2) (h : ((∃ N1 : e_M, e_E X d YX10_needYear [.inr (.inr 1), .inl p2, .inl p3, .inl p4] (557, gn, e_RF, M) (.inl none, (557, gn, e_RF, N1)) ∧ ((∃ N5 : e_M, e_E X d YX10_needWithin [.inr (.inr 1), .inl p5, .inl 0, .inl 4] (557, gn, e_RF, N1) (.inl none, (557, gn, e_RF, N5)) ∧ (∃ N9 : e_M, e_E X d YX9_liveFrom [.inr (.inr 54), .inr (.inr 36), .inl p1, .inl p2, .inl p3, .inl p4] (557, gn, e_RF, N5) (.inl none, (557, gn, e_RF, N9)) ∧ ((p5 = 0 → (∃ (r17 : Int) (N16 : e_M), e_E X d YX3_coinsOfAll [.inr (.inr 43)] (557, gn, e_RF, N9) (.inl (some (.inl r17)), (557, gn, e_RF, N16)) ∧ (o = (.inl (some (.inl r17)), (557, gn, e_RF, N16))))) ∧ (p5 = 1 → (∃ (r20 : Int) (N19 : e_M), e_E X d YX3_daysOfAll [.inr (.inr 43)] (557, gn, e_RF, N9) (.inl (some (.inl r20)), (557, gn, e_RF, N19)) ∧ (o = (.inl (some (.inl r20)), (557, gn, e_RF, N19))))) ∧ (p5 = 2 → (o = (.inl (some (.inl (e_w ((N9 43 3) - (N9 36 3))))), (557, gn, e_RF, N9)))) ∧ (p5 = 3 → (o = (.inl (some (.inl (N9 54 2))), (557, gn, e_RF, N9)))) ∧ (p5 < 0 ∨ 3 < p5 → (o = (.inl (some (.inl (N9 43 4))), (557, gn, e_RF, N9))))))) ∨ (∃ (z7 : Nat) (N8 : e_M), e_E X d YX10_needWithin [.inr (.inr 1), .inl p5, .inl 0, .inl 4] (557, gn, e_RF, N1) (.inr z7, (557, gn + 1, e_RF, N8)) ∧ o = (.inr z7, (557, gn + 1, e_RF, N8))))) ∨ (∃ (z3 : Nat) (N4 : e_M), e_E X d YX10_needYear [.inr (.inr 1), .inl p2, .inl p3, .inl p4] (557, gn, e_RF, M) (.inr z3, (557, gn + 1, e_RF, N4)) ∧ o = (.inr z3, (557, gn + 1, e_RF, N4))))) : e_G X (d + 1) YX10_year 0 [some (.inr (.inr 1)), some (.inl p1), some (.inl p2), some (.inl p3), some (.inl p4), some (.inl p5)] [] (557, gn, e_RF, M) o := by
  refine e_r_aload_n (pc' := 1) (by decide) dX10_year_0 rfl rfl rfl ?_
  refine e_r_iload_n (pc' := 2) dX10_year_1 rfl rfl rfl ?_
  refine e_r_iload_n (pc' := 3) dX10_year_2 rfl rfl rfl ?_
  refine e_r_iload (pc' := 5) dX10_year_3 rfl rfl ?_
  rcases h with ⟨N1, he2, h⟩ | ⟨z3, N4, he2, h⟩
  · refine e_r_callV (a := 1) (av := [.inl p2, .inl p3, .inl p4]) (st := []) mqYX10_needYear ml_RX10_311 cl_10 rfl (Nat.le_of_ble_eq_true rfl) (by simp [e_cat]) rfl rfl rfl dX10_year_5 (pc' := 8) rfl he2 ⟨Nat.le_refl _, Nat.le_refl _⟩ hmo ?_
    refine e_r_aload_n (pc' := 9) (by decide) dX10_year_8 rfl rfl rfl ?_
    refine e_r_iload (pc' := 11) dX10_year_9 rfl rfl ?_
    refine e_r_iconst (pc' := 12) dX10_year_11 rfl (by decide) ?_
    refine e_r_iconst (pc' := 13) dX10_year_12 rfl (by decide) ?_
    rcases h with ⟨N5, he6, h⟩ | ⟨z7, N8, he6, h⟩
    · refine e_r_callV (a := 1) (av := [.inl p5, .inl 0, .inl 4]) (st := []) mqYX10_needWithin ml_RX10_191 cl_10 rfl (Nat.le_of_ble_eq_true rfl) (by simp [e_cat]) rfl rfl rfl dX10_year_13 (pc' := 16) rfl he6 ⟨Nat.le_refl _, Nat.le_refl _⟩ hmo ?_
      refine e_r_aload_n (pc' := 17) (by decide) dX10_year_16 rfl rfl rfl ?_
      refine e_r_getr (k := 12) (q := 54) (pc' := 20) cl_10 rfl (Nat.le_of_ble_eq_true rfl) rfl rfl fl_RX10_86 rfl (Nat.le_of_ble_eq_true rfl) dX10_year_17 rfl ?_
      refine e_r_aload_n (pc' := 21) (by decide) dX10_year_20 rfl rfl rfl ?_
      refine e_r_getr (k := 8) (q := 36) (pc' := 24) cl_10 rfl (Nat.le_of_ble_eq_true rfl) rfl rfl fl_RX10_58 rfl (Nat.le_of_ble_eq_true rfl) dX10_year_21 rfl ?_
      refine e_r_iload_n (pc' := 25) dX10_year_24 rfl rfl rfl ?_
      refine e_r_iload_n (pc' := 26) dX10_year_25 rfl rfl rfl ?_
      refine e_r_iload_n (pc' := 27) dX10_year_26 rfl rfl rfl ?_
      refine e_r_iload (pc' := 29) dX10_year_27 rfl rfl ?_
      obtain ⟨N9, he10, h⟩ := h
      refine e_r_callV (a := 54) (av := [.inr (.inr 36), .inl p1, .inl p2, .inl p3, .inl p4]) (st := []) mqYX9_liveFrom ml_RX10_314 cl_9 rfl (Nat.le_of_ble_eq_true rfl) (by simp [e_cat]) rfl rfl rfl dX10_year_29 (pc' := 32) rfl he10 ⟨Nat.le_refl _, Nat.le_refl _⟩ hmo ?_
      refine e_r_iload (pc' := 34) dX10_year_32 rfl rfl ?_
      obtain ⟨hk11, hk12, hk13, hk14, hd15⟩ := h
      refine e_r_table (tgt := 104) dX10_year_34 rfl (fun j => bif Nat.beq j 0 then 64 else bif Nat.beq j 1 then 72 else bif Nat.beq j 2 then 80 else 96) (fun j hj => ?_) (fun j ej hj => ?_) (fun c => ?_)
      · rcases (show j = 0 ∨ j = 1 ∨ j = 2 ∨ j = 3 by omega) with rfl | rfl | rfl | rfl
        · exact ⟨30, rfl, rfl⟩
        · exact ⟨38, rfl, rfl⟩
        · exact ⟨46, rfl, rfl⟩
        · exact ⟨62, rfl, rfl⟩
      · rcases (show j = 0 ∨ j = 1 ∨ j = 2 ∨ j = 3 by omega) with rfl | rfl | rfl | rfl
        · have h := hk11 (by omega)
          show e_G X (d + 1) YX10_year 64 [some (.inr (.inr 1)), some (.inl p1), some (.inl p2), some (.inl p3), some (.inl p4), some (.inl p5)] [] (557, gn, e_RF, N9) o
          refine e_r_aload_n (pc' := 65) (by decide) dX10_year_64 rfl rfl rfl ?_
          refine e_r_getr (k := 9) (q := 43) (pc' := 68) cl_10 rfl (Nat.le_of_ble_eq_true rfl) rfl rfl fl_RX10_62 rfl (Nat.le_of_ble_eq_true rfl) dX10_year_65 rfl ?_
          obtain ⟨r17, N16, he18, h⟩ := h
          refine e_r_callV (a := 43) (av := []) (st := []) mqYX3_coinsOfAll ml_RX10_213 cl_3 rfl (Nat.le_of_ble_eq_true rfl) (by simp [e_cat]) rfl rfl rfl dX10_year_68 (pc' := 71) rfl he18 ⟨Nat.le_refl _, Nat.le_refl _⟩ hmo ?_
          exact e_r_iret (ty := .int) rfl (e_nI _) dX10_year_71 h
        · have h := hk12 (by omega)
          show e_G X (d + 1) YX10_year 72 [some (.inr (.inr 1)), some (.inl p1), some (.inl p2), some (.inl p3), some (.inl p4), some (.inl p5)] [] (557, gn, e_RF, N9) o
          refine e_r_aload_n (pc' := 73) (by decide) dX10_year_72 rfl rfl rfl ?_
          refine e_r_getr (k := 9) (q := 43) (pc' := 76) cl_10 rfl (Nat.le_of_ble_eq_true rfl) rfl rfl fl_RX10_62 rfl (Nat.le_of_ble_eq_true rfl) dX10_year_73 rfl ?_
          obtain ⟨r20, N19, he21, h⟩ := h
          refine e_r_callV (a := 43) (av := []) (st := []) mqYX3_daysOfAll ml_RX10_216 cl_3 rfl (Nat.le_of_ble_eq_true rfl) (by simp [e_cat]) rfl rfl rfl dX10_year_76 (pc' := 79) rfl he21 ⟨Nat.le_refl _, Nat.le_refl _⟩ hmo ?_
          exact e_r_iret (ty := .int) rfl (e_nI _) dX10_year_79 h
        · have h := hk13 (by omega)
          show e_G X (d + 1) YX10_year 80 [some (.inr (.inr 1)), some (.inl p1), some (.inl p2), some (.inl p3), some (.inl p4), some (.inl p5)] [] (557, gn, e_RF, N9) o
          refine e_r_aload_n (pc' := 81) (by decide) dX10_year_80 rfl rfl rfl ?_
          refine e_r_getr (k := 9) (q := 43) (pc' := 84) cl_10 rfl (Nat.le_of_ble_eq_true rfl) rfl rfl fl_RX10_62 rfl (Nat.le_of_ble_eq_true rfl) dX10_year_81 rfl ?_
          refine e_r_geti (k := 3) (pc' := 87) cl_3 rfl (Nat.le_of_ble_eq_true rfl) rfl rfl fl_RX10_210 dX10_year_84 rfl ?_
          refine e_r_aload_n (pc' := 88) (by decide) dX10_year_87 rfl rfl rfl ?_
          refine e_r_getr (k := 8) (q := 36) (pc' := 91) cl_10 rfl (Nat.le_of_ble_eq_true rfl) rfl rfl fl_RX10_58 rfl (Nat.le_of_ble_eq_true rfl) dX10_year_88 rfl ?_
          refine e_r_geti (k := 3) (pc' := 94) cl_3 rfl (Nat.le_of_ble_eq_true rfl) rfl rfl fl_RX10_210 dX10_year_91 rfl ?_
          refine e_r_isub (pc' := 95) dX10_year_94 rfl ?_
          exact e_r_iret (ty := .int) rfl (e_nI _) dX10_year_95 h
        · have h := hk14 (by omega)
          show e_G X (d + 1) YX10_year 96 [some (.inr (.inr 1)), some (.inl p1), some (.inl p2), some (.inl p3), some (.inl p4), some (.inl p5)] [] (557, gn, e_RF, N9) o
          refine e_r_aload_n (pc' := 97) (by decide) dX10_year_96 rfl rfl rfl ?_
          refine e_r_getr (k := 12) (q := 54) (pc' := 100) cl_10 rfl (Nat.le_of_ble_eq_true rfl) rfl rfl fl_RX10_86 rfl (Nat.le_of_ble_eq_true rfl) dX10_year_97 rfl ?_
          refine e_r_geti (k := 2) (pc' := 103) cl_9 rfl (Nat.le_of_ble_eq_true rfl) rfl rfl fl_RX10_318 dX10_year_100 rfl ?_
          exact e_r_iret (ty := .int) rfl (e_nI _) dX10_year_103 h
      · have h := hd15 c
        refine e_r_aload_n (pc' := 105) (by decide) dX10_year_104 rfl rfl rfl ?_
        refine e_r_getr (k := 9) (q := 43) (pc' := 108) cl_10 rfl (Nat.le_of_ble_eq_true rfl) rfl rfl fl_RX10_62 rfl (Nat.le_of_ble_eq_true rfl) dX10_year_105 rfl ?_
        refine e_r_geti (k := 4) (pc' := 111) cl_3 rfl (Nat.le_of_ble_eq_true rfl) rfl rfl fl_RX10_207 dX10_year_108 rfl ?_
        exact e_r_iret (ty := .int) rfl (e_nI _) dX10_year_111 h
    · exact e_r_callVx (a := 1) (av := [.inl p5, .inl 0, .inl 4]) (st := []) mqYX10_needWithin ml_RX10_191 cl_10 rfl (Nat.le_of_ble_eq_true rfl) (by simp [e_cat]) rfl rfl rfl dX10_year_13 rfl he6 ⟨Nat.le_refl _, Nat.le_succ _⟩ h
  · exact e_r_callVx (a := 1) (av := [.inl p2, .inl p3, .inl p4]) (st := []) mqYX10_needYear ml_RX10_311 cl_10 rfl (Nat.le_of_ble_eq_true rfl) (by simp [e_cat]) rfl rfl rfl dX10_year_5 rfl he2 ⟨Nat.le_refl _, Nat.le_succ _⟩ h
theorem wp_X10_span_0 {X : e_X} {d gn : Nat} {o : e_O} (M : e_M) (p1 p2 p3 p4 p5 p6 p7 : Int) (hmo : e_mn (557, gn, e_RF, M) o.2) (h : ((∃ N1 : e_M, e_E X d YX10_needWithin [.inr (.inr 1), .inl p2, .inl 1, .inl 20] (557, gn, e_RF, M) (.inl none, (557, gn, e_RF, N1)) ∧ ((∃ N5 : e_M, e_E X d YX10_needYear [.inr (.inr 1), .inl p3, .inl p4, .inl p5] (557, gn, e_RF, N1) (.inl none, (557, gn, e_RF, N5)) ∧ ((∃ N9 : e_M, e_E X d YX10_needWithin [.inr (.inr 1), .inl p6, .inl 0, .inl 2] (557, gn, e_RF, N5) (.inl none, (557, gn, e_RF, N9)) ∧ ((∃ N13 : e_M, e_E X d YX10_needWithin [.inr (.inr 1), .inl p7, .inl 0, .inl (e_w ((N9 4 2) - 1))] (557, gn, e_RF, N9) (.inl none, (557, gn, e_RF, N13)) ∧ e_G X (d + 1) YX10_span 53 [some (.inr (.inr 1)), some (.inl p1), some (.inl p2), some (.inl p3), some (.inl p4), some (.inl p5), some (.inl p6), some (.inl p7), some (.inl 0), some (.inl 0), some (.inl 0), some (.inl 0), none] [] (557, gn, e_RF, N13) o) ∨ (∃ (z15 : Nat) (N16 : e_M), e_E X d YX10_needWithin [.inr (.inr 1), .inl p7, .inl 0, .inl (e_w ((N9 4 2) - 1))] (557, gn, e_RF, N9) (.inr z15, (557, gn + 1, e_RF, N16)) ∧ o = (.inr z15, (557, gn + 1, e_RF, N16))))) ∨ (∃ (z11 : Nat) (N12 : e_M), e_E X d YX10_needWithin [.inr (.inr 1), .inl p6, .inl 0, .inl 2] (557, gn, e_RF, N5) (.inr z11, (557, gn + 1, e_RF, N12)) ∧ o = (.inr z11, (557, gn + 1, e_RF, N12))))) ∨ (∃ (z7 : Nat) (N8 : e_M), e_E X d YX10_needYear [.inr (.inr 1), .inl p3, .inl p4, .inl p5] (557, gn, e_RF, N1) (.inr z7, (557, gn + 1, e_RF, N8)) ∧ o = (.inr z7, (557, gn + 1, e_RF, N8))))) ∨ (∃ (z3 : Nat) (N4 : e_M), e_E X d YX10_needWithin [.inr (.inr 1), .inl p2, .inl 1, .inl 20] (557, gn, e_RF, M) (.inr z3, (557, gn + 1, e_RF, N4)) ∧ o = (.inr z3, (557, gn + 1, e_RF, N4))))) : e_G X (d + 1) YX10_span 0 [some (.inr (.inr 1)), some (.inl p1), some (.inl p2), some (.inl p3), some (.inl p4), some (.inl p5), some (.inl p6), some (.inl p7), none, none, none, none, none] [] (557, gn, e_RF, M) o := by
  refine e_r_aload_n (pc' := 1) (by decide) dX10_span_0 rfl rfl rfl ?_
  refine e_r_iload_n (pc' := 2) dX10_span_1 rfl rfl rfl ?_
  refine e_r_iconst (pc' := 3) dX10_span_2 rfl (by decide) ?_
  refine e_r_bipush (pc' := 5) dX10_span_3 rfl (by decide) ?_
  rcases h with ⟨N1, he2, h⟩ | ⟨z3, N4, he2, h⟩
  · refine e_r_callV (a := 1) (av := [.inl p2, .inl 1, .inl 20]) (st := []) mqYX10_needWithin ml_RX10_191 cl_10 rfl (Nat.le_of_ble_eq_true rfl) (by simp [e_cat]) rfl rfl rfl dX10_span_5 (pc' := 8) rfl he2 ⟨Nat.le_refl _, Nat.le_refl _⟩ hmo ?_
    refine e_r_aload_n (pc' := 9) (by decide) dX10_span_8 rfl rfl rfl ?_
    refine e_r_iload_n (pc' := 10) dX10_span_9 rfl rfl rfl ?_
    refine e_r_iload (pc' := 12) dX10_span_10 rfl rfl ?_
    refine e_r_iload (pc' := 14) dX10_span_12 rfl rfl ?_
    rcases h with ⟨N5, he6, h⟩ | ⟨z7, N8, he6, h⟩
    · refine e_r_callV (a := 1) (av := [.inl p3, .inl p4, .inl p5]) (st := []) mqYX10_needYear ml_RX10_311 cl_10 rfl (Nat.le_of_ble_eq_true rfl) (by simp [e_cat]) rfl rfl rfl dX10_span_14 (pc' := 17) rfl he6 ⟨Nat.le_refl _, Nat.le_refl _⟩ hmo ?_
      refine e_r_aload_n (pc' := 18) (by decide) dX10_span_17 rfl rfl rfl ?_
      refine e_r_iload (pc' := 20) dX10_span_18 rfl rfl ?_
      refine e_r_iconst (pc' := 21) dX10_span_20 rfl (by decide) ?_
      refine e_r_iconst (pc' := 22) dX10_span_21 rfl (by decide) ?_
      rcases h with ⟨N9, he10, h⟩ | ⟨z11, N12, he10, h⟩
      · refine e_r_callV (a := 1) (av := [.inl p6, .inl 0, .inl 2]) (st := []) mqYX10_needWithin ml_RX10_191 cl_10 rfl (Nat.le_of_ble_eq_true rfl) (by simp [e_cat]) rfl rfl rfl dX10_span_22 (pc' := 25) rfl he10 ⟨Nat.le_refl _, Nat.le_refl _⟩ hmo ?_
        refine e_r_aload_n (pc' := 26) (by decide) dX10_span_25 rfl rfl rfl ?_
        refine e_r_iload (pc' := 28) dX10_span_26 rfl rfl ?_
        refine e_r_iconst (pc' := 29) dX10_span_28 rfl (by decide) ?_
        refine e_r_aload_n (pc' := 30) (by decide) dX10_span_29 rfl rfl rfl ?_
        refine e_r_getr (k := 1) (q := 4) (pc' := 33) cl_10 rfl (Nat.le_of_ble_eq_true rfl) rfl rfl fl_RX10_19 rfl (Nat.le_of_ble_eq_true rfl) dX10_span_30 rfl ?_
        refine e_r_geti (k := 2) (pc' := 36) cl_8 rfl (Nat.le_of_ble_eq_true rfl) rfl rfl fl_RX10_198 dX10_span_33 rfl ?_
        refine e_r_iconst (pc' := 37) dX10_span_36 rfl (by decide) ?_
        refine e_r_isub (pc' := 38) dX10_span_37 rfl ?_
        rcases h with ⟨N13, he14, h⟩ | ⟨z15, N16, he14, h⟩
        · refine e_r_callV (a := 1) (av := [.inl p7, .inl 0, .inl (e_w ((N9 4 2) - 1))]) (st := []) mqYX10_needWithin ml_RX10_191 cl_10 rfl (Nat.le_of_ble_eq_true rfl) (by simp [e_cat]) rfl rfl rfl dX10_span_38 (pc' := 41) rfl he14 ⟨Nat.le_refl _, Nat.le_refl _⟩ hmo ?_
          refine e_r_iconst (pc' := 42) dX10_span_41 rfl (by decide) ?_
          refine e_r_istore (pc' := 44) (loc' := [some (.inr (.inr 1)), some (.inl p1), some (.inl p2), some (.inl p3), some (.inl p4), some (.inl p5), some (.inl p6), some (.inl p7), some (.inl 0), none, none, none, none]) dX10_span_42 rfl rfl rfl rfl ?_
          refine e_r_iconst (pc' := 45) dX10_span_44 rfl (by decide) ?_
          refine e_r_istore (pc' := 47) (loc' := [some (.inr (.inr 1)), some (.inl p1), some (.inl p2), some (.inl p3), some (.inl p4), some (.inl p5), some (.inl p6), some (.inl p7), some (.inl 0), some (.inl 0), none, none, none]) dX10_span_45 rfl rfl rfl rfl ?_
          refine e_r_iconst (pc' := 48) dX10_span_47 rfl (by decide) ?_
          refine e_r_istore (pc' := 50) (loc' := [some (.inr (.inr 1)), some (.inl p1), some (.inl p2), some (.inl p3), some (.inl p4), some (.inl p5), some (.inl p6), some (.inl p7), some (.inl 0), some (.inl 0), some (.inl 0), none, none]) dX10_span_48 rfl rfl rfl rfl ?_
          refine e_r_iconst (pc' := 51) dX10_span_50 rfl (by decide) ?_
          refine e_r_istore (pc' := 53) (loc' := [some (.inr (.inr 1)), some (.inl p1), some (.inl p2), some (.inl p3), some (.inl p4), some (.inl p5), some (.inl p6), some (.inl p7), some (.inl 0), some (.inl 0), some (.inl 0), some (.inl 0), none]) dX10_span_51 rfl rfl rfl rfl ?_
          exact h
        · exact e_r_callVx (a := 1) (av := [.inl p7, .inl 0, .inl (e_w ((N9 4 2) - 1))]) (st := []) mqYX10_needWithin ml_RX10_191 cl_10 rfl (Nat.le_of_ble_eq_true rfl) (by simp [e_cat]) rfl rfl rfl dX10_span_38 rfl he14 ⟨Nat.le_refl _, Nat.le_succ _⟩ h
      · exact e_r_callVx (a := 1) (av := [.inl p6, .inl 0, .inl 2]) (st := []) mqYX10_needWithin ml_RX10_191 cl_10 rfl (Nat.le_of_ble_eq_true rfl) (by simp [e_cat]) rfl rfl rfl dX10_span_22 rfl he10 ⟨Nat.le_refl _, Nat.le_succ _⟩ h
    · exact e_r_callVx (a := 1) (av := [.inl p3, .inl p4, .inl p5]) (st := []) mqYX10_needYear ml_RX10_311 cl_10 rfl (Nat.le_of_ble_eq_true rfl) (by simp [e_cat]) rfl rfl rfl dX10_span_14 rfl he6 ⟨Nat.le_refl _, Nat.le_succ _⟩ h
  · exact e_r_callVx (a := 1) (av := [.inl p2, .inl 1, .inl 20]) (st := []) mqYX10_needWithin ml_RX10_191 cl_10 rfl (Nat.le_of_ble_eq_true rfl) (by simp [e_cat]) rfl rfl rfl dX10_span_5 rfl he2 ⟨Nat.le_refl _, Nat.le_succ _⟩ h
theorem wp_X10_span_53 {X : e_X} {d gn : Nat} {o : e_O} (M : e_M) (p1 p2 p3 p4 p5 p6 p7 v8 v9 v10 v11 : Int) (hmo : e_mn (557, gn, e_RF, M) o.2) (h : ((p2 ≤ v11 → ((p6 = 0 → (o = (.inl (some (.inl v8)), (557, gn, e_RF, M)))) ∧ (p6 = 1 → (o = (.inl (some (.inl v9)), (557, gn, e_RF, M)))) ∧ (¬ p6 = 0 ∧ ¬ p6 = 1 → (o = (.inl (some (.inl v10)), (557, gn, e_RF, M)))))) ∧ (¬ (p2 ≤ v11) → (∃ N8 : e_M, e_E X d YX9_liveFrom [.inr (.inr 54), .inr (.inr 36), .inl (e_w (p1 + v11)), .inl p3, .inl p4, .inl p5] (557, gn, e_RF, M) (.inl none, (557, gn, e_RF, N8)) ∧ ((¬ v11 = 0 → e_G X (d + 1) YX10_span 113 [some (.inr (.inr 1)), some (.inl p1), some (.inl p2), some (.inl p3), some (.inl p4), some (.inl p5), some (.inl p6), some (.inl p7), some (.inl v8), some (.inl v9), some (.inl v10), some (.inl v11), some (.inl (e_w ((N8 43 3) - (N8 36 3))))] [.inl (min v8 (e_w ((N8 43 3) - (N8 36 3))))] (557, gn, e_RF, N8) o) ∧ (v11 = 0 → e_G X (d + 1) YX10_span 113 [some (.inr (.inr 1)), some (.inl p1), some (.inl p2), some (.inl p3), some (.inl p4), some (.inl p5), some (.inl p6), some (.inl p7), some (.inl v8), some (.inl v9), some (.inl v10), some (.inl v11), some (.inl (e_w ((N8 43 3) - (N8 36 3))))] [.inl (e_w ((N8 43 3) - (N8 36 3)))] (557, gn, e_RF, N8) o)))))) : e_G X (d + 1) YX10_span 53 [some (.inr (.inr 1)), some (.inl p1), some (.inl p2), some (.inl p3), some (.inl p4), some (.inl p5), some (.inl p6), some (.inl p7), some (.inl v8), some (.inl v9), some (.inl v10), some (.inl v11), none] [] (557, gn, e_RF, M) o := by
  refine e_r_iload (pc' := 55) dX10_span_53 rfl rfl ?_
  refine e_r_iload_n (pc' := 56) dX10_span_55 rfl rfl rfl ?_
  obtain ⟨ht1, hf2⟩ := h
  refine e_r_icmp_ge (tgt := 152) (pc' := 59) dX10_span_56 rfl rfl (fun c => ?_) (fun c => ?_)
  · have h := ht1 c
    refine e_r_iload (pc' := 154) dX10_span_152 rfl rfl ?_
    obtain ⟨hk3, hk4, hd5⟩ := h
    by_cases c6 : p6 = 0
    · have h := hk3 c6
      refine e_r_lookup (pc' := 180) dX10_span_154 rfl 26 (by rw [c6]; rfl) rfl ?_
      refine e_r_iload (pc' := 182) dX10_span_180 rfl rfl ?_
      exact e_r_iret (ty := .int) rfl (e_nI _) dX10_span_182 h
    by_cases c7 : p6 = 1
    · have h := hk4 c7
      refine e_r_lookup (pc' := 183) dX10_span_154 rfl 29 (by rw [c7]; rfl) rfl ?_
      refine e_r_iload (pc' := 185) dX10_span_183 rfl rfl ?_
      exact e_r_iret (ty := .int) rfl (e_nI _) dX10_span_185 h
    have h := hd5 ⟨c6, c7⟩
    refine e_r_lookup (pc' := 186) dX10_span_154 rfl 32 (by simp [Op.lookupswitch.offset, show ¬ (0 : Int) = p6 from fun z => c6 z.symm, show ¬ (1 : Int) = p6 from fun z => c7 z.symm]) rfl ?_
    refine e_r_iload (pc' := 188) dX10_span_186 rfl rfl ?_
    exact e_r_iret (ty := .int) rfl (e_nI _) dX10_span_188 h
  · have h := hf2 c
    refine e_r_aload_n (pc' := 60) (by decide) dX10_span_59 rfl rfl rfl ?_
    refine e_r_getr (k := 12) (q := 54) (pc' := 63) cl_10 rfl (Nat.le_of_ble_eq_true rfl) rfl rfl fl_RX10_86 rfl (Nat.le_of_ble_eq_true rfl) dX10_span_60 rfl ?_
    refine e_r_aload_n (pc' := 64) (by decide) dX10_span_63 rfl rfl rfl ?_
    refine e_r_getr (k := 8) (q := 36) (pc' := 67) cl_10 rfl (Nat.le_of_ble_eq_true rfl) rfl rfl fl_RX10_58 rfl (Nat.le_of_ble_eq_true rfl) dX10_span_64 rfl ?_
    refine e_r_iload_n (pc' := 68) dX10_span_67 rfl rfl rfl ?_
    refine e_r_iload (pc' := 70) dX10_span_68 rfl rfl ?_
    refine e_r_iadd (pc' := 71) dX10_span_70 rfl ?_
    refine e_r_iload_n (pc' := 72) dX10_span_71 rfl rfl rfl ?_
    refine e_r_iload (pc' := 74) dX10_span_72 rfl rfl ?_
    refine e_r_iload (pc' := 76) dX10_span_74 rfl rfl ?_
    obtain ⟨N8, he9, h⟩ := h
    refine e_r_callV (a := 54) (av := [.inr (.inr 36), .inl (e_w (p1 + v11)), .inl p3, .inl p4, .inl p5]) (st := []) mqYX9_liveFrom ml_RX10_314 cl_9 rfl (Nat.le_of_ble_eq_true rfl) (by simp [e_cat]) rfl rfl rfl dX10_span_76 (pc' := 79) rfl he9 ⟨Nat.le_refl _, Nat.le_refl _⟩ hmo ?_
    refine e_r_aload_n (pc' := 80) (by decide) dX10_span_79 rfl rfl rfl ?_
    refine e_r_getr (k := 9) (q := 43) (pc' := 83) cl_10 rfl (Nat.le_of_ble_eq_true rfl) rfl rfl fl_RX10_62 rfl (Nat.le_of_ble_eq_true rfl) dX10_span_80 rfl ?_
    refine e_r_geti (k := 3) (pc' := 86) cl_3 rfl (Nat.le_of_ble_eq_true rfl) rfl rfl fl_RX10_210 dX10_span_83 rfl ?_
    refine e_r_aload_n (pc' := 87) (by decide) dX10_span_86 rfl rfl rfl ?_
    refine e_r_getr (k := 8) (q := 36) (pc' := 90) cl_10 rfl (Nat.le_of_ble_eq_true rfl) rfl rfl fl_RX10_58 rfl (Nat.le_of_ble_eq_true rfl) dX10_span_87 rfl ?_
    refine e_r_geti (k := 3) (pc' := 93) cl_3 rfl (Nat.le_of_ble_eq_true rfl) rfl rfl fl_RX10_210 dX10_span_90 rfl ?_
    refine e_r_isub (pc' := 94) dX10_span_93 rfl ?_
    refine e_r_istore (pc' := 96) (loc' := [some (.inr (.inr 1)), some (.inl p1), some (.inl p2), some (.inl p3), some (.inl p4), some (.inl p5), some (.inl p6), some (.inl p7), some (.inl v8), some (.inl v9), some (.inl v10), some (.inl v11), some (.inl (e_w ((N8 43 3) - (N8 36 3))))]) dX10_span_94 rfl rfl rfl rfl ?_
    refine e_r_iload (pc' := 98) dX10_span_96 rfl rfl ?_
    obtain ⟨ht10, hf11⟩ := h
    refine e_r_if_ne (tgt := 106) (pc' := 101) dX10_span_98 rfl rfl (fun c => ?_) (fun c => ?_)
    · have h := ht10 c
      refine e_r_iload (pc' := 108) dX10_span_106 rfl rfl ?_
      refine e_r_iload (pc' := 110) dX10_span_108 rfl rfl ?_
      refine e_r_min (pc' := 113) lk_RX10_295 rfl dX10_span_110 rfl ?_
      exact h
    · have h := hf11 c
      refine e_r_iload (pc' := 103) dX10_span_101 rfl rfl ?_
      refine e_r_goto (pc' := 113) dX10_span_103 rfl ?_
      exact h
theorem wp_X10_span_113 {X : e_X} {d gn : Nat} {o : e_O} (M : e_M) (p1 p2 p3 p4 p5 p6 p7 v8 v9 v10 v11 v12 w0 : Int) (hmo : e_mn (557, gn, e_RF, M) o.2) (h : (∃ (r2 : Int) (N1 : e_M), e_E X d YX3_isDone [.inr (.inr 43), .inl p7] (557, gn, e_RF, M) (.inl (some (.inl r2)), (557, gn, e_RF, N1)) ∧ ((r2 = 0 → e_G X (d + 1) YX10_span 53 [some (.inr (.inr 1)), some (.inl p1), some (.inl p2), some (.inl p3), some (.inl p4), some (.inl p5), some (.inl p6), some (.inl p7), some (.inl w0), some (.inl (max v9 v12)), some (.inl (e_w (v10 + 0))), some (.inl (e_w (v11 + 1))), none] [] (557, gn, e_RF, N1) o) ∧ (¬ (r2 = 0) → e_G X (d + 1) YX10_span 53 [some (.inr (.inr 1)), some (.inl p1), some (.inl p2), some (.inl p3), some (.inl p4), some (.inl p5), some (.inl p6), some (.inl p7), some (.inl w0), some (.inl (max v9 v12)), some (.inl (e_w (v10 + 1))), some (.inl (e_w (v11 + 1))), none] [] (557, gn, e_RF, N1) o)))) : e_G X (d + 1) YX10_span 113 [some (.inr (.inr 1)), some (.inl p1), some (.inl p2), some (.inl p3), some (.inl p4), some (.inl p5), some (.inl p6), some (.inl p7), some (.inl v8), some (.inl v9), some (.inl v10), some (.inl v11), some (.inl v12)] [.inl w0] (557, gn, e_RF, M) o := by
  refine e_r_istore (pc' := 115) (loc' := [some (.inr (.inr 1)), some (.inl p1), some (.inl p2), some (.inl p3), some (.inl p4), some (.inl p5), some (.inl p6), some (.inl p7), some (.inl w0), some (.inl v9), some (.inl v10), some (.inl v11), some (.inl v12)]) dX10_span_113 rfl rfl rfl rfl ?_
  refine e_r_iload (pc' := 117) dX10_span_115 rfl rfl ?_
  refine e_r_iload (pc' := 119) dX10_span_117 rfl rfl ?_
  refine e_r_max (pc' := 122) lk_RX10_321 rfl dX10_span_119 rfl ?_
  refine e_r_istore (pc' := 124) (loc' := [some (.inr (.inr 1)), some (.inl p1), some (.inl p2), some (.inl p3), some (.inl p4), some (.inl p5), some (.inl p6), some (.inl p7), some (.inl w0), some (.inl (max v9 v12)), some (.inl v10), some (.inl v11), some (.inl v12)]) dX10_span_122 rfl rfl rfl rfl ?_
  refine e_r_iload (pc' := 126) dX10_span_124 rfl rfl ?_
  refine e_r_aload_n (pc' := 127) (by decide) dX10_span_126 rfl rfl rfl ?_
  refine e_r_getr (k := 9) (q := 43) (pc' := 130) cl_10 rfl (Nat.le_of_ble_eq_true rfl) rfl rfl fl_RX10_62 rfl (Nat.le_of_ble_eq_true rfl) dX10_span_127 rfl ?_
  refine e_r_iload (pc' := 132) dX10_span_130 rfl rfl ?_
  obtain ⟨r2, N1, he3, h⟩ := h
  refine e_r_callV (a := 43) (av := [.inl p7]) (st := [.inl v10]) mqYX3_isDone ml_RX10_269 cl_3 rfl (Nat.le_of_ble_eq_true rfl) (by simp [e_cat]) rfl rfl rfl dX10_span_132 (pc' := 135) rfl he3 ⟨Nat.le_refl _, Nat.le_refl _⟩ hmo ?_
  obtain ⟨ht4, hf5⟩ := h
  refine e_r_if_eq (tgt := 142) (pc' := 138) dX10_span_135 rfl rfl (fun c => ?_) (fun c => ?_)
  · have h := ht4 c
    refine e_r_iconst (pc' := 143) dX10_span_142 rfl (by decide) ?_
    refine e_r_iadd (pc' := 144) dX10_span_143 rfl ?_
    refine e_r_istore (pc' := 146) (loc' := [some (.inr (.inr 1)), some (.inl p1), some (.inl p2), some (.inl p3), some (.inl p4), some (.inl p5), some (.inl p6), some (.inl p7), some (.inl w0), some (.inl (max v9 v12)), some (.inl (e_w (v10 + 0))), some (.inl v11), some (.inl v12)]) dX10_span_144 rfl rfl rfl rfl ?_
    refine e_r_iinc (pc' := 149) (loc' := [some (.inr (.inr 1)), some (.inl p1), some (.inl p2), some (.inl p3), some (.inl p4), some (.inl p5), some (.inl p6), some (.inl p7), some (.inl w0), some (.inl (max v9 v12)), some (.inl (e_w (v10 + 0))), some (.inl (e_w (v11 + 1))), some (.inl v12)]) dX10_span_146 rfl rfl rfl rfl rfl ?_
    refine e_r_goto (pc' := 53) dX10_span_149 rfl ?_
    exact e_forget (m := [true, true, true, true, true, true, true, true, true, true, true, true, false]) h rfl
  · have h := hf5 c
    refine e_r_iconst (pc' := 139) dX10_span_138 rfl (by decide) ?_
    refine e_r_goto (pc' := 143) dX10_span_139 rfl ?_
    refine e_r_iadd (pc' := 144) dX10_span_143 rfl ?_
    refine e_r_istore (pc' := 146) (loc' := [some (.inr (.inr 1)), some (.inl p1), some (.inl p2), some (.inl p3), some (.inl p4), some (.inl p5), some (.inl p6), some (.inl p7), some (.inl w0), some (.inl (max v9 v12)), some (.inl (e_w (v10 + 1))), some (.inl v11), some (.inl v12)]) dX10_span_144 rfl rfl rfl rfl ?_
    refine e_r_iinc (pc' := 149) (loc' := [some (.inr (.inr 1)), some (.inl p1), some (.inl p2), some (.inl p3), some (.inl p4), some (.inl p5), some (.inl p6), some (.inl p7), some (.inl w0), some (.inl (max v9 v12)), some (.inl (e_w (v10 + 1))), some (.inl (e_w (v11 + 1))), some (.inl v12)]) dX10_span_146 rfl rfl rfl rfl rfl ?_
    refine e_r_goto (pc' := 53) dX10_span_149 rfl ?_
    exact e_forget (m := [true, true, true, true, true, true, true, true, true, true, true, true, false]) h rfl
theorem wp_X10_left_0 {X : e_X} {d gn : Nat} {o : e_O} (M : e_M) (hmo : e_mn (557, gn, e_RF, M) o.2) (h : (∃ (r2 : Int) (N1 : e_M), e_E X d YX3_stayingBits [.inr (.inr 36)] (557, gn, e_RF, M) (.inl (some (.inl r2)), (557, gn, e_RF, N1)) ∧ (∃ (r5 : Int) (N4 : e_M), e_E X d YX3_leftBy [.inr (.inr 36), .inl r2] (557, gn, e_RF, N1) (.inl (some (.inl r5)), (557, gn, e_RF, N4)) ∧ (o = (.inl (some (.inl r5)), (557, gn, e_RF, N4)))))) : e_G X (d + 1) YX10_left 0 [some (.inr (.inr 1))] [] (557, gn, e_RF, M) o := by
  refine e_r_aload_n (pc' := 1) (by decide) dX10_left_0 rfl rfl rfl ?_
  refine e_r_getr (k := 8) (q := 36) (pc' := 4) cl_10 rfl (Nat.le_of_ble_eq_true rfl) rfl rfl fl_RX10_58 rfl (Nat.le_of_ble_eq_true rfl) dX10_left_1 rfl ?_
  refine e_r_aload_n (pc' := 5) (by decide) dX10_left_4 rfl rfl rfl ?_
  refine e_r_getr (k := 8) (q := 36) (pc' := 8) cl_10 rfl (Nat.le_of_ble_eq_true rfl) rfl rfl fl_RX10_58 rfl (Nat.le_of_ble_eq_true rfl) dX10_left_5 rfl ?_
  obtain ⟨r2, N1, he3, h⟩ := h
  refine e_r_callV (a := 36) (av := []) (st := [.inr (.inr 36)]) mqYX3_stayingBits ml_RX10_324 cl_3 rfl (Nat.le_of_ble_eq_true rfl) (by simp [e_cat]) rfl rfl rfl dX10_left_8 (pc' := 11) rfl he3 ⟨Nat.le_refl _, Nat.le_refl _⟩ hmo ?_
  obtain ⟨r5, N4, he6, h⟩ := h
  refine e_r_callV (a := 36) (av := [.inl r2]) (st := []) mqYX3_leftBy ml_RX10_327 cl_3 rfl (Nat.le_of_ble_eq_true rfl) (by simp [e_cat]) rfl rfl rfl dX10_left_11 (pc' := 14) rfl he6 ⟨Nat.le_refl _, Nat.le_refl _⟩ hmo ?_
  exact e_r_iret (ty := .int) rfl (e_nI _) dX10_left_14 h
theorem wp_X10_stay_0 {X : e_X} {d gn : Nat} {o : e_O} (M : e_M) (p1 : Int) (hmo : e_mn (557, gn, e_RF, M) o.2) (h : (∃ (r2 : Int) (N1 : e_M), e_E X d YX10_bitsBelow [.inl (M 4 1)] (557, gn, e_RF, M) (.inl (some (.inl r2)), (557, gn, e_RF, N1)) ∧ ((∃ N4 : e_M, e_E X d YX10_needWithin [.inr (.inr 1), .inl p1, .inl 0, .inl r2] (557, gn, e_RF, N1) (.inl none, (557, gn, e_RF, N4)) ∧ (∃ (r9 : Int) (N8 : e_M), e_E X d YX10_bitsBelow [.inl (N4 4 0)] (557, gn, e_RF, N4) (.inl (some (.inl r9)), (557, gn, e_RF, N8)) ∧ e_G X (d + 1) YX10_stay 36 [some (.inr (.inr 1)), some (.inl p1), some (.inl (-1)), some (.inl 7), some (.inl r9), some (.inl 0), none] [] (557, gn, e_RF, N8) o)) ∨ (∃ (z6 : Nat) (N7 : e_M), e_E X d YX10_needWithin [.inr (.inr 1), .inl p1, .inl 0, .inl r2] (557, gn, e_RF, N1) (.inr z6, (557, gn + 1, e_RF, N7)) ∧ o = (.inr z6, (557, gn + 1, e_RF, N7)))))) : e_G X (d + 1) YX10_stay 0 [some (.inr (.inr 1)), some (.inl p1), none, none, none, none, none] [] (557, gn, e_RF, M) o := by
  refine e_r_aload_n (pc' := 1) (by decide) dX10_stay_0 rfl rfl rfl ?_
  refine e_r_iload_n (pc' := 2) dX10_stay_1 rfl rfl rfl ?_
  refine e_r_iconst (pc' := 3) dX10_stay_2 rfl (by decide) ?_
  refine e_r_aload_n (pc' := 4) (by decide) dX10_stay_3 rfl rfl rfl ?_
  refine e_r_getr (k := 1) (q := 4) (pc' := 7) cl_10 rfl (Nat.le_of_ble_eq_true rfl) rfl rfl fl_RX10_19 rfl (Nat.le_of_ble_eq_true rfl) dX10_stay_4 rfl ?_
  refine e_r_geti (k := 1) (pc' := 10) cl_8 rfl (Nat.le_of_ble_eq_true rfl) rfl rfl fl_RX10_195 dX10_stay_7 rfl ?_
  obtain ⟨r2, N1, he3, h⟩ := h
  refine e_r_callS (av := [.inl (M 4 1)]) (st := [.inl 0, .inl p1, .inr (.inr 1)]) mqYX10_bitsBelow ml_RX10_330 (by simp [e_cat]) rfl rfl rfl dX10_stay_10 (pc' := 13) rfl he3 ⟨Nat.le_refl _, Nat.le_refl _⟩ hmo ?_
  rcases h with ⟨N4, he5, h⟩ | ⟨z6, N7, he5, h⟩
  · refine e_r_callV (a := 1) (av := [.inl p1, .inl 0, .inl r2]) (st := []) mqYX10_needWithin ml_RX10_191 cl_10 rfl (Nat.le_of_ble_eq_true rfl) (by simp [e_cat]) rfl rfl rfl dX10_stay_13 (pc' := 16) rfl he5 ⟨Nat.le_refl _, Nat.le_refl _⟩ hmo ?_
    refine e_r_iconst (pc' := 17) dX10_stay_16 rfl (by decide) ?_
    refine e_r_istore_n (pc' := 18) (loc' := [some (.inr (.inr 1)), some (.inl p1), some (.inl (-1)), none, none, none, none]) dX10_stay_17 rfl rfl rfl rfl rfl ?_
    refine e_r_bipush (pc' := 20) dX10_stay_18 rfl (by decide) ?_
    refine e_r_istore_n (pc' := 21) (loc' := [some (.inr (.inr 1)), some (.inl p1), some (.inl (-1)), some (.inl 7), none, none, none]) dX10_stay_20 rfl rfl rfl rfl rfl ?_
    refine e_r_aload_n (pc' := 22) (by decide) dX10_stay_21 rfl rfl rfl ?_
    refine e_r_getr (k := 1) (q := 4) (pc' := 25) cl_10 rfl (Nat.le_of_ble_eq_true rfl) rfl rfl fl_RX10_19 rfl (Nat.le_of_ble_eq_true rfl) dX10_stay_22 rfl ?_
    refine e_r_geti (k := 0) (pc' := 28) cl_8 rfl (Nat.le_of_ble_eq_true rfl) rfl rfl fl_RX10_155 dX10_stay_25 rfl ?_
    obtain ⟨r9, N8, he10, h⟩ := h
    refine e_r_callS (av := [.inl (N4 4 0)]) (st := []) mqYX10_bitsBelow ml_RX10_330 (by simp [e_cat]) rfl rfl rfl dX10_stay_28 (pc' := 31) rfl he10 ⟨Nat.le_refl _, Nat.le_refl _⟩ hmo ?_
    refine e_r_istore (pc' := 33) (loc' := [some (.inr (.inr 1)), some (.inl p1), some (.inl (-1)), some (.inl 7), some (.inl r9), none, none]) dX10_stay_31 rfl rfl rfl rfl ?_
    refine e_r_iconst (pc' := 34) dX10_stay_33 rfl (by decide) ?_
    refine e_r_istore (pc' := 36) (loc' := [some (.inr (.inr 1)), some (.inl p1), some (.inl (-1)), some (.inl 7), some (.inl r9), some (.inl 0), none]) dX10_stay_34 rfl rfl rfl rfl ?_
    exact h
  · exact e_r_callVx (a := 1) (av := [.inl p1, .inl 0, .inl r2]) (st := []) mqYX10_needWithin ml_RX10_191 cl_10 rfl (Nat.le_of_ble_eq_true rfl) (by simp [e_cat]) rfl rfl rfl dX10_stay_13 rfl he5 ⟨Nat.le_refl _, Nat.le_succ _⟩ h
theorem wp_X10_stay_36 {X : e_X} {d gn : Nat} {o : e_O} (M : e_M) (p1 v2 v3 v4 v5 : Int) (hmo : e_mn (557, gn, e_RF, M) o.2) (h : ((v4 < v5 → (o = (.inl (some (.inl v2)), (557, gn, e_RF, M)))) ∧ (¬ (v4 < v5) → (∃ (r4 : Int) (N3 : e_M), e_E X d YJ6_bitCount_0f7a4 [.inl v5] (557, gn, e_RF, M) (.inl (some (.inl r4)), (557, gn, e_RF, N3)) ∧ ((v3 ≤ r4 → e_G X (d + 1) YX10_stay 36 [some (.inr (.inr 1)), some (.inl p1), some (.inl v2), some (.inl v3), some (.inl v4), some (.inl (e_w (v5 + 1))), none] [] (557, gn, e_RF, N3) o) ∧ (¬ (v3 ≤ r4) → (∃ (r9 : Int) (N8 : e_M), e_E X d YX8_skillsOf [.inr (.inr 4), .inl v5] (557, gn, e_RF, N3) (.inl (some (.inl r9)), (557, gn, e_RF, N8)) ∧ ((¬ (e_and p1 (e_xor r9 (-1))) = 0 → e_G X (d + 1) YX10_stay 36 [some (.inr (.inr 1)), some (.inl p1), some (.inl v2), some (.inl v3), some (.inl v4), some (.inl (e_w (v5 + 1))), none] [] (557, gn, e_RF, N8) o) ∧ ((e_and p1 (e_xor r9 (-1))) = 0 → e_G X (d + 1) YX10_stay 36 [some (.inr (.inr 1)), some (.inl p1), some (.inl v5), some (.inl r4), some (.inl v4), some (.inl (e_w (v5 + 1))), none] [] (557, gn, e_RF, N8) o))))))))) : e_G X (d + 1) YX10_stay 36 [some (.inr (.inr 1)), some (.inl p1), some (.inl v2), some (.inl v3), some (.inl v4), some (.inl v5), none] [] (557, gn, e_RF, M) o := by
  refine e_r_iload (pc' := 38) dX10_stay_36 rfl rfl ?_
  refine e_r_iload (pc' := 40) dX10_stay_38 rfl rfl ?_
  obtain ⟨ht1, hf2⟩ := h
  refine e_r_icmp_gt (tgt := 84) (pc' := 43) dX10_stay_40 rfl rfl (fun c => ?_) (fun c => ?_)
  · have h := ht1 c
    refine e_r_iload_n (pc' := 85) dX10_stay_84 rfl rfl rfl ?_
    exact e_r_iret (ty := .int) rfl (e_nI _) dX10_stay_85 h
  · have h := hf2 c
    refine e_r_iload (pc' := 45) dX10_stay_43 rfl rfl ?_
    obtain ⟨r4, N3, he5, h⟩ := h
    refine e_r_callS (av := [.inl v5]) (st := []) mqYJ6_bitCount_0f7a4 ml_RX10_333 (by simp [e_cat]) rfl rfl rfl dX10_stay_45 (pc' := 48) rfl he5 ⟨Nat.le_refl _, Nat.le_refl _⟩ hmo ?_
    refine e_r_istore (pc' := 50) (loc' := [some (.inr (.inr 1)), some (.inl p1), some (.inl v2), some (.inl v3), some (.inl v4), some (.inl v5), some (.inl r4)]) dX10_stay_48 rfl rfl rfl rfl ?_
    refine e_r_iload (pc' := 52) dX10_stay_50 rfl rfl ?_
    refine e_r_iload_n (pc' := 53) dX10_stay_52 rfl rfl rfl ?_
    obtain ⟨ht6, hf7⟩ := h
    refine e_r_icmp_ge (tgt := 78) (pc' := 56) dX10_stay_53 rfl rfl (fun c => ?_) (fun c => ?_)
    · have h := ht6 c
      refine e_r_iinc (pc' := 81) (loc' := [some (.inr (.inr 1)), some (.inl p1), some (.inl v2), some (.inl v3), some (.inl v4), some (.inl (e_w (v5 + 1))), some (.inl r4)]) dX10_stay_78 rfl rfl rfl rfl rfl ?_
      refine e_r_goto (pc' := 36) dX10_stay_81 rfl ?_
      exact e_forget (m := [true, true, true, true, true, true, false]) h rfl
    · have h := hf7 c
      refine e_r_iload_n (pc' := 57) dX10_stay_56 rfl rfl rfl ?_
      refine e_r_aload_n (pc' := 58) (by decide) dX10_stay_57 rfl rfl rfl ?_
      refine e_r_getr (k := 1) (q := 4) (pc' := 61) cl_10 rfl (Nat.le_of_ble_eq_true rfl) rfl rfl fl_RX10_19 rfl (Nat.le_of_ble_eq_true rfl) dX10_stay_58 rfl ?_
      refine e_r_iload (pc' := 63) dX10_stay_61 rfl rfl ?_
      obtain ⟨r9, N8, he10, h⟩ := h
      refine e_r_callV (a := 4) (av := [.inl v5]) (st := [.inl p1]) mqYX8_skillsOf ml_RX10_338 cl_8 rfl (Nat.le_of_ble_eq_true rfl) (by simp [e_cat]) rfl rfl rfl dX10_stay_63 (pc' := 66) rfl he10 ⟨Nat.le_refl _, Nat.le_refl _⟩ hmo ?_
      refine e_r_iconst (pc' := 67) dX10_stay_66 rfl (by decide) ?_
      refine e_r_ixor (pc' := 68) dX10_stay_67 rfl ?_
      refine e_r_iand (pc' := 69) dX10_stay_68 rfl ?_
      obtain ⟨ht11, hf12⟩ := h
      refine e_r_if_ne (tgt := 78) (pc' := 72) dX10_stay_69 rfl rfl (fun c => ?_) (fun c => ?_)
      · have h := ht11 c
        refine e_r_iinc (pc' := 81) (loc' := [some (.inr (.inr 1)), some (.inl p1), some (.inl v2), some (.inl v3), some (.inl v4), some (.inl (e_w (v5 + 1))), some (.inl r4)]) dX10_stay_78 rfl rfl rfl rfl rfl ?_
        refine e_r_goto (pc' := 36) dX10_stay_81 rfl ?_
        exact e_forget (m := [true, true, true, true, true, true, false]) h rfl
      · have h := hf12 c
        refine e_r_iload (pc' := 74) dX10_stay_72 rfl rfl ?_
        refine e_r_istore_n (pc' := 75) (loc' := [some (.inr (.inr 1)), some (.inl p1), some (.inl v5), some (.inl v3), some (.inl v4), some (.inl v5), some (.inl r4)]) dX10_stay_74 rfl rfl rfl rfl rfl ?_
        refine e_r_iload (pc' := 77) dX10_stay_75 rfl rfl ?_
        refine e_r_istore_n (pc' := 78) (loc' := [some (.inr (.inr 1)), some (.inl p1), some (.inl v5), some (.inl r4), some (.inl v4), some (.inl v5), some (.inl r4)]) dX10_stay_77 rfl rfl rfl rfl rfl ?_
        refine e_r_iinc (pc' := 81) (loc' := [some (.inr (.inr 1)), some (.inl p1), some (.inl v5), some (.inl r4), some (.inl v4), some (.inl (e_w (v5 + 1))), some (.inl r4)]) dX10_stay_78 rfl rfl rfl rfl rfl ?_
        refine e_r_goto (pc' := 36) dX10_stay_81 rfl ?_
        exact e_forget (m := [true, true, true, true, true, true, false]) h rfl
theorem wp_X10_given_0 {X : e_X} {d gn : Nat} {o : e_O} (M : e_M) (hmo : e_mn (557, gn, e_RF, M) o.2) (h : (∃ (r2 : Int) (N1 : e_M), e_E X d YX3_stayingBits [.inr (.inr 36)] (557, gn, e_RF, M) (.inl (some (.inl r2)), (557, gn, e_RF, N1)) ∧ (∃ (r5 : Int) (N4 : e_M), e_E X d YX1_giveTo [.inr (.inr 50), .inl r2] (557, gn, e_RF, N1) (.inl (some (.inl r5)), (557, gn, e_RF, N4)) ∧ (o = (.inl (some (.inl r5)), (557, gn, e_RF, N4)))))) : e_G X (d + 1) YX10_given 0 [some (.inr (.inr 1))] [] (557, gn, e_RF, M) o := by
  refine e_r_aload_n (pc' := 1) (by decide) dX10_given_0 rfl rfl rfl ?_
  refine e_r_getr (k := 10) (q := 50) (pc' := 4) cl_10 rfl (Nat.le_of_ble_eq_true rfl) rfl rfl fl_RX10_70 rfl (Nat.le_of_ble_eq_true rfl) dX10_given_1 rfl ?_
  refine e_r_aload_n (pc' := 5) (by decide) dX10_given_4 rfl rfl rfl ?_
  refine e_r_getr (k := 8) (q := 36) (pc' := 8) cl_10 rfl (Nat.le_of_ble_eq_true rfl) rfl rfl fl_RX10_58 rfl (Nat.le_of_ble_eq_true rfl) dX10_given_5 rfl ?_
  obtain ⟨r2, N1, he3, h⟩ := h
  refine e_r_callV (a := 36) (av := []) (st := [.inr (.inr 50)]) mqYX3_stayingBits ml_RX10_324 cl_3 rfl (Nat.le_of_ble_eq_true rfl) (by simp [e_cat]) rfl rfl rfl dX10_given_8 (pc' := 11) rfl he3 ⟨Nat.le_refl _, Nat.le_refl _⟩ hmo ?_
  obtain ⟨r5, N4, he6, h⟩ := h
  refine e_r_callV (a := 50) (av := [.inl r2]) (st := []) mqYX1_giveTo ml_RX10_341 cl_1 rfl (Nat.le_of_ble_eq_true rfl) (by simp [e_cat]) rfl rfl rfl dX10_given_11 (pc' := 14) rfl he6 ⟨Nat.le_refl _, Nat.le_refl _⟩ hmo ?_
  exact e_r_iret (ty := .int) rfl (e_nI _) dX10_given_14 h
theorem wp_X10_giver_0 {X : e_X} {d gn : Nat} {o : e_O} (M : e_M) (p1 : Int) (hmo : e_mn (557, gn, e_RF, M) o.2) (h : ((∃ N1 : e_M, e_E X d YX10_needDuty [.inr (.inr 1), .inl p1] (557, gn, e_RF, M) (.inl none, (557, gn, e_RF, N1)) ∧ (∃ (r6 : Int) (N5 : e_M), e_E X d YX3_stayingBits [.inr (.inr 36)] (557, gn, e_RF, N1) (.inl (some (.inl r6)), (557, gn, e_RF, N5)) ∧ (∃ (r9 : Int) (N8 : e_M), e_E X d YX1_giveTo [.inr (.inr 50), .inl r6] (557, gn, e_RF, N5) (.inl (some (.inl r9)), (557, gn, e_RF, N8)) ∧ ((0 ≤ p1 ∧ p1 < 6) ∧ (o = (.inl (some (.inl (N8 52 p1.toNat))), (557, gn, e_RF, N8))))))) ∨ (∃ (z3 : Nat) (N4 : e_M), e_E X d YX10_needDuty [.inr (.inr 1), .inl p1] (557, gn, e_RF, M) (.inr z3, (557, gn + 1, e_RF, N4)) ∧ o = (.inr z3, (557, gn + 1, e_RF, N4))))) : e_G X (d + 1) YX10_giver 0 [some (.inr (.inr 1)), some (.inl p1)] [] (557, gn, e_RF, M) o := by
  refine e_r_aload_n (pc' := 1) (by decide) dX10_giver_0 rfl rfl rfl ?_
  refine e_r_iload_n (pc' := 2) dX10_giver_1 rfl rfl rfl ?_
  rcases h with ⟨N1, he2, h⟩ | ⟨z3, N4, he2, h⟩
  · refine e_r_callV (a := 1) (av := [.inl p1]) (st := []) mqYX10_needDuty ml_RX10_247 cl_10 rfl (Nat.le_of_ble_eq_true rfl) (by simp [e_cat]) rfl rfl rfl dX10_giver_2 (pc' := 5) rfl he2 ⟨Nat.le_refl _, Nat.le_refl _⟩ hmo ?_
    refine e_r_aload_n (pc' := 6) (by decide) dX10_giver_5 rfl rfl rfl ?_
    refine e_r_getr (k := 10) (q := 50) (pc' := 9) cl_10 rfl (Nat.le_of_ble_eq_true rfl) rfl rfl fl_RX10_70 rfl (Nat.le_of_ble_eq_true rfl) dX10_giver_6 rfl ?_
    refine e_r_aload_n (pc' := 10) (by decide) dX10_giver_9 rfl rfl rfl ?_
    refine e_r_getr (k := 8) (q := 36) (pc' := 13) cl_10 rfl (Nat.le_of_ble_eq_true rfl) rfl rfl fl_RX10_58 rfl (Nat.le_of_ble_eq_true rfl) dX10_giver_10 rfl ?_
    obtain ⟨r6, N5, he7, h⟩ := h
    refine e_r_callV (a := 36) (av := []) (st := [.inr (.inr 50)]) mqYX3_stayingBits ml_RX10_324 cl_3 rfl (Nat.le_of_ble_eq_true rfl) (by simp [e_cat]) rfl rfl rfl dX10_giver_13 (pc' := 16) rfl he7 ⟨Nat.le_refl _, Nat.le_refl _⟩ hmo ?_
    obtain ⟨r9, N8, he10, h⟩ := h
    refine e_r_callV (a := 50) (av := [.inl r6]) (st := []) mqYX1_giveTo ml_RX10_341 cl_1 rfl (Nat.le_of_ble_eq_true rfl) (by simp [e_cat]) rfl rfl rfl dX10_giver_16 (pc' := 19) rfl he10 ⟨Nat.le_refl _, Nat.le_refl _⟩ hmo ?_
    refine e_r_pop (pc' := 20) rfl dX10_giver_19 rfl ?_
    refine e_r_aload_n (pc' := 21) (by decide) dX10_giver_20 rfl rfl rfl ?_
    refine e_r_getr (k := 10) (q := 50) (pc' := 24) cl_10 rfl (Nat.le_of_ble_eq_true rfl) rfl rfl fl_RX10_70 rfl (Nat.le_of_ble_eq_true rfl) dX10_giver_21 rfl ?_
    refine e_r_getr (k := 2) (q := 52) (pc' := 27) cl_1 rfl (Nat.le_of_ble_eq_true rfl) rfl rfl fl_RX10_344 rfl (Nat.le_of_ble_eq_true rfl) dX10_giver_24 rfl ?_
    refine e_r_iload_n (pc' := 28) dX10_giver_27 rfl rfl rfl ?_
    obtain ⟨hb11, h⟩ := h
    refine e_r_iald (j9 := p1.toNat) (pc' := 29) rfl (Nat.le_of_ble_eq_true rfl) hb11.1 hb11.2 rfl dX10_giver_28 rfl ?_
    exact e_r_iret (ty := .int) rfl (e_nI _) dX10_giver_29 h
  · exact e_r_callVx (a := 1) (av := [.inl p1]) (st := []) mqYX10_needDuty ml_RX10_247 cl_10 rfl (Nat.le_of_ble_eq_true rfl) (by simp [e_cat]) rfl rfl rfl dX10_giver_2 rfl he2 ⟨Nat.le_refl _, Nat.le_succ _⟩ h
theorem wp_X10_lone_0 {X : e_X} {d gn : Nat} {o : e_O} (M : e_M) (h : e_G X (d + 1) YX10_lone 4 [some (.inr (.inr 1)), some (.inl 0), some (.inl 0)] [] (557, gn, e_RF, M) o) : e_G X (d + 1) YX10_lone 0 [some (.inr (.inr 1)), none, none] [] (557, gn, e_RF, M) o := by
  refine e_r_iconst (pc' := 1) dX10_lone_0 rfl (by decide) ?_
  refine e_r_istore_n (pc' := 2) (loc' := [some (.inr (.inr 1)), some (.inl 0), none]) dX10_lone_1 rfl rfl rfl rfl rfl ?_
  refine e_r_iconst (pc' := 3) dX10_lone_2 rfl (by decide) ?_
  refine e_r_istore_n (pc' := 4) (loc' := [some (.inr (.inr 1)), some (.inl 0), some (.inl 0)]) dX10_lone_3 rfl rfl rfl rfl rfl ?_
  exact h
theorem wp_X10_lone_4 {X : e_X} {d gn : Nat} {o : e_O} (M : e_M) (v1 v2 : Int) (hmo : e_mn (557, gn, e_RF, M) o.2) (h : (((M 4 1) ≤ v2 → (o = (.inl (some (.inl v1)), (557, gn, e_RF, M)))) ∧ (¬ ((M 4 1) ≤ v2) → (∃ (r4 : Int) (N3 : e_M), e_E X d YX8_ableBits [.inr (.inr 4), .inl v2] (557, gn, e_RF, M) (.inl (some (.inl r4)), (557, gn, e_RF, N3)) ∧ (∃ (r7 : Int) (N6 : e_M), e_E X d YJ6_bitCount_0f7a4 [.inl r4] (557, gn, e_RF, N3) (.inl (some (.inl r7)), (557, gn, e_RF, N6)) ∧ ((¬ r7 = 1 → e_G X (d + 1) YX10_lone 4 [some (.inr (.inr 1)), some (.inl v1), some (.inl (e_w (v2 + 1)))] [] (557, gn, e_RF, N6) o) ∧ (r7 = 1 → e_G X (d + 1) YX10_lone 4 [some (.inr (.inr 1)), some (.inl (e_or v1 (e_shl 1 v2))), some (.inl (e_w (v2 + 1)))] [] (557, gn, e_RF, N6) o))))))) : e_G X (d + 1) YX10_lone 4 [some (.inr (.inr 1)), some (.inl v1), some (.inl v2)] [] (557, gn, e_RF, M) o := by
  refine e_r_iload_n (pc' := 5) dX10_lone_4 rfl rfl rfl ?_
  refine e_r_aload_n (pc' := 6) (by decide) dX10_lone_5 rfl rfl rfl ?_
  refine e_r_getr (k := 1) (q := 4) (pc' := 9) cl_10 rfl (Nat.le_of_ble_eq_true rfl) rfl rfl fl_RX10_19 rfl (Nat.le_of_ble_eq_true rfl) dX10_lone_6 rfl ?_
  refine e_r_geti (k := 1) (pc' := 12) cl_8 rfl (Nat.le_of_ble_eq_true rfl) rfl rfl fl_RX10_195 dX10_lone_9 rfl ?_
  obtain ⟨ht1, hf2⟩ := h
  refine e_r_icmp_ge (tgt := 42) (pc' := 15) dX10_lone_12 rfl rfl (fun c => ?_) (fun c => ?_)
  · have h := ht1 c
    refine e_r_iload_n (pc' := 43) dX10_lone_42 rfl rfl rfl ?_
    exact e_r_iret (ty := .int) rfl (e_nI _) dX10_lone_43 h
  · have h := hf2 c
    refine e_r_aload_n (pc' := 16) (by decide) dX10_lone_15 rfl rfl rfl ?_
    refine e_r_getr (k := 1) (q := 4) (pc' := 19) cl_10 rfl (Nat.le_of_ble_eq_true rfl) rfl rfl fl_RX10_19 rfl (Nat.le_of_ble_eq_true rfl) dX10_lone_16 rfl ?_
    refine e_r_iload_n (pc' := 20) dX10_lone_19 rfl rfl rfl ?_
    obtain ⟨r4, N3, he5, h⟩ := h
    refine e_r_callV (a := 4) (av := [.inl v2]) (st := []) mqYX8_ableBits ml_RX10_253 cl_8 rfl (Nat.le_of_ble_eq_true rfl) (by simp [e_cat]) rfl rfl rfl dX10_lone_20 (pc' := 23) rfl he5 ⟨Nat.le_refl _, Nat.le_refl _⟩ hmo ?_
    obtain ⟨r7, N6, he8, h⟩ := h
    refine e_r_callS (av := [.inl r4]) (st := []) mqYJ6_bitCount_0f7a4 ml_RX10_333 (by simp [e_cat]) rfl rfl rfl dX10_lone_23 (pc' := 26) rfl he8 ⟨Nat.le_refl _, Nat.le_refl _⟩ hmo ?_
    refine e_r_iconst (pc' := 27) dX10_lone_26 rfl (by decide) ?_
    obtain ⟨ht9, hf10⟩ := h
    refine e_r_icmp_ne (tgt := 36) (pc' := 30) dX10_lone_27 rfl rfl (fun c => ?_) (fun c => ?_)
    · have h := ht9 c
      refine e_r_iinc (pc' := 39) (loc' := [some (.inr (.inr 1)), some (.inl v1), some (.inl (e_w (v2 + 1)))]) dX10_lone_36 rfl rfl rfl rfl rfl ?_
      refine e_r_goto (pc' := 4) dX10_lone_39 rfl ?_
      exact h
    · have h := hf10 c
      refine e_r_iload_n (pc' := 31) dX10_lone_30 rfl rfl rfl ?_
      refine e_r_iconst (pc' := 32) dX10_lone_31 rfl (by decide) ?_
      refine e_r_iload_n (pc' := 33) dX10_lone_32 rfl rfl rfl ?_
      refine e_r_ishl (pc' := 34) dX10_lone_33 rfl ?_
      refine e_r_ior (pc' := 35) dX10_lone_34 rfl ?_
      refine e_r_istore_n (pc' := 36) (loc' := [some (.inr (.inr 1)), some (.inl (e_or v1 (e_shl 1 v2))), some (.inl v2)]) dX10_lone_35 rfl rfl rfl rfl rfl ?_
      refine e_r_iinc (pc' := 39) (loc' := [some (.inr (.inr 1)), some (.inl (e_or v1 (e_shl 1 v2))), some (.inl (e_w (v2 + 1)))]) dX10_lone_36 rfl rfl rfl rfl rfl ?_
      refine e_r_goto (pc' := 4) dX10_lone_39 rfl ?_
      exact h
theorem wp_X10_next_0 {X : e_X} {d gn : Nat} {o : e_O} (M : e_M) (p1 p2 : Int) (hmo : e_mn (557, gn, e_RF, M) o.2) (h : ((∃ N1 : e_M, e_E X d YX10_needPerson [.inr (.inr 1), .inl p1] (557, gn, e_RF, M) (.inl none, (557, gn, e_RF, N1)) ∧ ((∃ N5 : e_M, e_E X d YX10_needWithin [.inr (.inr 1), .inl p2, .inl 0, .inl 1] (557, gn, e_RF, N1) (.inl none, (557, gn, e_RF, N5)) ∧ e_G X (d + 1) YX10_next 17 [some (.inr (.inr 1)), some (.inl p1), some (.inl p2), some (.inl (-1)), some (.inl 0)] [] (557, gn, e_RF, N5) o) ∨ (∃ (z7 : Nat) (N8 : e_M), e_E X d YX10_needWithin [.inr (.inr 1), .inl p2, .inl 0, .inl 1] (557, gn, e_RF, N1) (.inr z7, (557, gn + 1, e_RF, N8)) ∧ o = (.inr z7, (557, gn + 1, e_RF, N8))))) ∨ (∃ (z3 : Nat) (N4 : e_M), e_E X d YX10_needPerson [.inr (.inr 1), .inl p1] (557, gn, e_RF, M) (.inr z3, (557, gn + 1, e_RF, N4)) ∧ o = (.inr z3, (557, gn + 1, e_RF, N4))))) : e_G X (d + 1) YX10_next 0 [some (.inr (.inr 1)), some (.inl p1), some (.inl p2), none, none] [] (557, gn, e_RF, M) o := by
  refine e_r_aload_n (pc' := 1) (by decide) dX10_next_0 rfl rfl rfl ?_
  refine e_r_iload_n (pc' := 2) dX10_next_1 rfl rfl rfl ?_
  rcases h with ⟨N1, he2, h⟩ | ⟨z3, N4, he2, h⟩
  · refine e_r_callV (a := 1) (av := [.inl p1]) (st := []) mqYX10_needPerson ml_RX10_222 cl_10 rfl (Nat.le_of_ble_eq_true rfl) (by simp [e_cat]) rfl rfl rfl dX10_next_2 (pc' := 5) rfl he2 ⟨Nat.le_refl _, Nat.le_refl _⟩ hmo ?_
    refine e_r_aload_n (pc' := 6) (by decide) dX10_next_5 rfl rfl rfl ?_
    refine e_r_iload_n (pc' := 7) dX10_next_6 rfl rfl rfl ?_
    refine e_r_iconst (pc' := 8) dX10_next_7 rfl (by decide) ?_
    refine e_r_iconst (pc' := 9) dX10_next_8 rfl (by decide) ?_
    rcases h with ⟨N5, he6, h⟩ | ⟨z7, N8, he6, h⟩
    · refine e_r_callV (a := 1) (av := [.inl p2, .inl 0, .inl 1]) (st := []) mqYX10_needWithin ml_RX10_191 cl_10 rfl (Nat.le_of_ble_eq_true rfl) (by simp [e_cat]) rfl rfl rfl dX10_next_9 (pc' := 12) rfl he6 ⟨Nat.le_refl _, Nat.le_refl _⟩ hmo ?_
      refine e_r_iconst (pc' := 13) dX10_next_12 rfl (by decide) ?_
      refine e_r_istore_n (pc' := 14) (loc' := [some (.inr (.inr 1)), some (.inl p1), some (.inl p2), some (.inl (-1)), none]) dX10_next_13 rfl rfl rfl rfl rfl ?_
      refine e_r_iconst (pc' := 15) dX10_next_14 rfl (by decide) ?_
      refine e_r_istore (pc' := 17) (loc' := [some (.inr (.inr 1)), some (.inl p1), some (.inl p2), some (.inl (-1)), some (.inl 0)]) dX10_next_15 rfl rfl rfl rfl ?_
      exact h
    · exact e_r_callVx (a := 1) (av := [.inl p2, .inl 0, .inl 1]) (st := []) mqYX10_needWithin ml_RX10_191 cl_10 rfl (Nat.le_of_ble_eq_true rfl) (by simp [e_cat]) rfl rfl rfl dX10_next_9 rfl he6 ⟨Nat.le_refl _, Nat.le_succ _⟩ h
  · exact e_r_callVx (a := 1) (av := [.inl p1]) (st := []) mqYX10_needPerson ml_RX10_222 cl_10 rfl (Nat.le_of_ble_eq_true rfl) (by simp [e_cat]) rfl rfl rfl dX10_next_2 rfl he2 ⟨Nat.le_refl _, Nat.le_succ _⟩ h
theorem wp_X10_next_17 {X : e_X} {d gn : Nat} {o : e_O} (M : e_M) (p1 p2 v3 v4 : Int) (hmo : e_mn (557, gn, e_RF, M) o.2) (h : (((M 4 2) ≤ v4 → ((¬ v3 = (-1) → ((¬ p2 = 0 → ((0 ≤ v3 ∧ v3 < 12) ∧ (o = (.inl (some (.inl (e_w ((M 42 v3.toNat) - (M 36 2))))), (557, gn, e_RF, M))))) ∧ (p2 = 0 → (o = (.inl (some (.inl v3)), (557, gn, e_RF, M)))))) ∧ (v3 = (-1) → (o = (.inl (some (.inl (-1))), (557, gn, e_RF, M)))))) ∧ (¬ ((M 4 2) ≤ v4) → ((0 ≤ v4 ∧ v4 < 12) ∧ ((¬ (M 9 v4.toNat) = p1 → e_G X (d + 1) YX10_next 17 [some (.inr (.inr 1)), some (.inl p1), some (.inl p2), some (.inl v3), some (.inl (e_w (v4 + 1)))] [] (557, gn, e_RF, M) o) ∧ ((M 9 v4.toNat) = p1 → (∃ (r12 : Int) (N11 : e_M), e_E X d YX3_isAhead [.inr (.inr 36), .inl v4] (557, gn, e_RF, M) (.inl (some (.inl r12)), (557, gn, e_RF, N11)) ∧ ((r12 = 0 → e_G X (d + 1) YX10_next 17 [some (.inr (.inr 1)), some (.inl p1), some (.inl p2), some (.inl v3), some (.inl (e_w (v4 + 1)))] [] (557, gn, e_RF, N11) o) ∧ (¬ (r12 = 0) → ((v3 = (-1) → e_G X (d + 1) YX10_next 17 [some (.inr (.inr 1)), some (.inl p1), some (.inl p2), some (.inl v4), some (.inl (e_w (v4 + 1)))] [] (557, gn, e_RF, N11) o) ∧ (¬ (v3 = (-1)) → ((0 ≤ v4 ∧ v4 < 12) ∧ ((0 ≤ v3 ∧ v3 < 12) ∧ (((N11 42 v3.toNat) ≤ (N11 42 v4.toNat) → e_G X (d + 1) YX10_next 17 [some (.inr (.inr 1)), some (.inl p1), some (.inl p2), some (.inl v3), some (.inl (e_w (v4 + 1)))] [] (557, gn, e_RF, N11) o) ∧ (¬ ((N11 42 v3.toNat) ≤ (N11 42 v4.toNat)) → e_G X (d + 1) YX10_next 17 [some (.inr (.inr 1)), some (.inl p1), some (.inl p2), some (.inl v4), some (.inl (e_w (v4 + 1)))] [] (557, gn, e_RF, N11) o))))))))))))))) : e_G X (d + 1) YX10_next 17 [some (.inr (.inr 1)), some (.inl p1), some (.inl p2), some (.inl v3), some (.inl v4)] [] (557, gn, e_RF, M) o := by
  refine e_r_iload (pc' := 19) dX10_next_17 rfl rfl ?_
  refine e_r_aload_n (pc' := 20) (by decide) dX10_next_19 rfl rfl rfl ?_
  refine e_r_getr (k := 1) (q := 4) (pc' := 23) cl_10 rfl (Nat.le_of_ble_eq_true rfl) rfl rfl fl_RX10_19 rfl (Nat.le_of_ble_eq_true rfl) dX10_next_20 rfl ?_
  refine e_r_geti (k := 2) (pc' := 26) cl_8 rfl (Nat.le_of_ble_eq_true rfl) rfl rfl fl_RX10_198 dX10_next_23 rfl ?_
  obtain ⟨ht1, hf2⟩ := h
  refine e_r_icmp_ge (tgt := 91) (pc' := 29) dX10_next_26 rfl rfl (fun c => ?_) (fun c => ?_)
  · have h := ht1 c
    refine e_r_iload_n (pc' := 92) dX10_next_91 rfl rfl rfl ?_
    refine e_r_iconst (pc' := 93) dX10_next_92 rfl (by decide) ?_
    obtain ⟨ht3, hf4⟩ := h
    refine e_r_icmp_ne (tgt := 98) (pc' := 96) dX10_next_93 rfl rfl (fun c => ?_) (fun c => ?_)
    · have h := ht3 c
      refine e_r_iload_n (pc' := 99) dX10_next_98 rfl rfl rfl ?_
      obtain ⟨ht5, hf6⟩ := h
      refine e_r_if_ne (tgt := 106) (pc' := 102) dX10_next_99 rfl rfl (fun c => ?_) (fun c => ?_)
      · have h := ht5 c
        refine e_r_aload_n (pc' := 107) (by decide) dX10_next_106 rfl rfl rfl ?_
        refine e_r_getr (k := 8) (q := 36) (pc' := 110) cl_10 rfl (Nat.le_of_ble_eq_true rfl) rfl rfl fl_RX10_58 rfl (Nat.le_of_ble_eq_true rfl) dX10_next_107 rfl ?_
        refine e_r_getr (k := 10) (q := 42) (pc' := 113) cl_3 rfl (Nat.le_of_ble_eq_true rfl) rfl rfl fl_RX10_263 rfl (Nat.le_of_ble_eq_true rfl) dX10_next_110 rfl ?_
        refine e_r_iload_n (pc' := 114) dX10_next_113 rfl rfl rfl ?_
        obtain ⟨hb7, h⟩ := h
        refine e_r_iald (j9 := v3.toNat) (pc' := 115) rfl (Nat.le_of_ble_eq_true rfl) hb7.1 hb7.2 rfl dX10_next_114 rfl ?_
        refine e_r_aload_n (pc' := 116) (by decide) dX10_next_115 rfl rfl rfl ?_
        refine e_r_getr (k := 8) (q := 36) (pc' := 119) cl_10 rfl (Nat.le_of_ble_eq_true rfl) rfl rfl fl_RX10_58 rfl (Nat.le_of_ble_eq_true rfl) dX10_next_116 rfl ?_
        refine e_r_geti (k := 2) (pc' := 122) cl_3 rfl (Nat.le_of_ble_eq_true rfl) rfl rfl fl_RX10_201 dX10_next_119 rfl ?_
        refine e_r_isub (pc' := 123) dX10_next_122 rfl ?_
        exact e_r_iret (ty := .int) rfl (e_nI _) dX10_next_123 h
      · have h := hf6 c
        refine e_r_iload_n (pc' := 103) dX10_next_102 rfl rfl rfl ?_
        refine e_r_goto (pc' := 123) dX10_next_103 rfl ?_
        exact e_r_iret (ty := .int) rfl (e_nI _) dX10_next_123 h
    · have h := hf4 c
      refine e_r_iconst (pc' := 97) dX10_next_96 rfl (by decide) ?_
      exact e_r_iret (ty := .int) rfl (e_nI _) dX10_next_97 h
  · have h := hf2 c
    refine e_r_aload_n (pc' := 30) (by decide) dX10_next_29 rfl rfl rfl ?_
    refine e_r_getr (k := 1) (q := 4) (pc' := 33) cl_10 rfl (Nat.le_of_ble_eq_true rfl) rfl rfl fl_RX10_19 rfl (Nat.le_of_ble_eq_true rfl) dX10_next_30 rfl ?_
    refine e_r_getr (k := 7) (q := 9) (pc' := 36) cl_8 rfl (Nat.le_of_ble_eq_true rfl) rfl rfl fl_RX10_260 rfl (Nat.le_of_ble_eq_true rfl) dX10_next_33 rfl ?_
    refine e_r_iload (pc' := 38) dX10_next_36 rfl rfl ?_
    obtain ⟨hb8, h⟩ := h
    refine e_r_iald (j9 := v4.toNat) (pc' := 39) rfl (Nat.le_of_ble_eq_true rfl) hb8.1 hb8.2 rfl dX10_next_38 rfl ?_
    refine e_r_iload_n (pc' := 40) dX10_next_39 rfl rfl rfl ?_
    obtain ⟨ht9, hf10⟩ := h
    refine e_r_icmp_ne (tgt := 85) (pc' := 43) dX10_next_40 rfl rfl (fun c => ?_) (fun c => ?_)
    · have h := ht9 c
      refine e_r_iinc (pc' := 88) (loc' := [some (.inr (.inr 1)), some (.inl p1), some (.inl p2), some (.inl v3), some (.inl (e_w (v4 + 1)))]) dX10_next_85 rfl rfl rfl rfl rfl ?_
      refine e_r_goto (pc' := 17) dX10_next_88 rfl ?_
      exact h
    · have h := hf10 c
      refine e_r_aload_n (pc' := 44) (by decide) dX10_next_43 rfl rfl rfl ?_
      refine e_r_getr (k := 8) (q := 36) (pc' := 47) cl_10 rfl (Nat.le_of_ble_eq_true rfl) rfl rfl fl_RX10_58 rfl (Nat.le_of_ble_eq_true rfl) dX10_next_44 rfl ?_
      refine e_r_iload (pc' := 49) dX10_next_47 rfl rfl ?_
      obtain ⟨r12, N11, he13, h⟩ := h
      refine e_r_callV (a := 36) (av := [.inl v4]) (st := []) mqYX3_isAhead ml_RX10_347 cl_3 rfl (Nat.le_of_ble_eq_true rfl) (by simp [e_cat]) rfl rfl rfl dX10_next_49 (pc' := 52) rfl he13 ⟨Nat.le_refl _, Nat.le_refl _⟩ hmo ?_
      obtain ⟨ht14, hf15⟩ := h
      refine e_r_if_eq (tgt := 85) (pc' := 55) dX10_next_52 rfl rfl (fun c => ?_) (fun c => ?_)
      · have h := ht14 c
        refine e_r_iinc (pc' := 88) (loc' := [some (.inr (.inr 1)), some (.inl p1), some (.inl p2), some (.inl v3), some (.inl (e_w (v4 + 1)))]) dX10_next_85 rfl rfl rfl rfl rfl ?_
        refine e_r_goto (pc' := 17) dX10_next_88 rfl ?_
        exact h
      · have h := hf15 c
        refine e_r_iload_n (pc' := 56) dX10_next_55 rfl rfl rfl ?_
        refine e_r_iconst (pc' := 57) dX10_next_56 rfl (by decide) ?_
        obtain ⟨ht16, hf17⟩ := h
        refine e_r_icmp_eq (tgt := 82) (pc' := 60) dX10_next_57 rfl rfl (fun c => ?_) (fun c => ?_)
        · have h := ht16 c
          refine e_r_iload (pc' := 84) dX10_next_82 rfl rfl ?_
          refine e_r_istore_n (pc' := 85) (loc' := [some (.inr (.inr 1)), some (.inl p1), some (.inl p2), some (.inl v4), some (.inl v4)]) dX10_next_84 rfl rfl rfl rfl rfl ?_
          refine e_r_iinc (pc' := 88) (loc' := [some (.inr (.inr 1)), some (.inl p1), some (.inl p2), some (.inl v4), some (.inl (e_w (v4 + 1)))]) dX10_next_85 rfl rfl rfl rfl rfl ?_
          refine e_r_goto (pc' := 17) dX10_next_88 rfl ?_
          exact h
        · have h := hf17 c
          refine e_r_aload_n (pc' := 61) (by decide) dX10_next_60 rfl rfl rfl ?_
          refine e_r_getr (k := 8) (q := 36) (pc' := 64) cl_10 rfl (Nat.le_of_ble_eq_true rfl) rfl rfl fl_RX10_58 rfl (Nat.le_of_ble_eq_true rfl) dX10_next_61 rfl ?_
          refine e_r_getr (k := 10) (q := 42) (pc' := 67) cl_3 rfl (Nat.le_of_ble_eq_true rfl) rfl rfl fl_RX10_263 rfl (Nat.le_of_ble_eq_true rfl) dX10_next_64 rfl ?_
          refine e_r_iload (pc' := 69) dX10_next_67 rfl rfl ?_
          obtain ⟨hb18, h⟩ := h
          refine e_r_iald (j9 := v4.toNat) (pc' := 70) rfl (Nat.le_of_ble_eq_true rfl) hb18.1 hb18.2 rfl dX10_next_69 rfl ?_
          refine e_r_aload_n (pc' := 71) (by decide) dX10_next_70 rfl rfl rfl ?_
          refine e_r_getr (k := 8) (q := 36) (pc' := 74) cl_10 rfl (Nat.le_of_ble_eq_true rfl) rfl rfl fl_RX10_58 rfl (Nat.le_of_ble_eq_true rfl) dX10_next_71 rfl ?_
          refine e_r_getr (k := 10) (q := 42) (pc' := 77) cl_3 rfl (Nat.le_of_ble_eq_true rfl) rfl rfl fl_RX10_263 rfl (Nat.le_of_ble_eq_true rfl) dX10_next_74 rfl ?_
          refine e_r_iload_n (pc' := 78) dX10_next_77 rfl rfl rfl ?_
          obtain ⟨hb19, h⟩ := h
          refine e_r_iald (j9 := v3.toNat) (pc' := 79) rfl (Nat.le_of_ble_eq_true rfl) hb19.1 hb19.2 rfl dX10_next_78 rfl ?_
          obtain ⟨ht20, hf21⟩ := h
          refine e_r_icmp_ge (tgt := 85) (pc' := 82) dX10_next_79 rfl rfl (fun c => ?_) (fun c => ?_)
          · have h := ht20 c
            refine e_r_iinc (pc' := 88) (loc' := [some (.inr (.inr 1)), some (.inl p1), some (.inl p2), some (.inl v3), some (.inl (e_w (v4 + 1)))]) dX10_next_85 rfl rfl rfl rfl rfl ?_
            refine e_r_goto (pc' := 17) dX10_next_88 rfl ?_
            exact h
          · have h := hf21 c
            refine e_r_iload (pc' := 84) dX10_next_82 rfl rfl ?_
            refine e_r_istore_n (pc' := 85) (loc' := [some (.inr (.inr 1)), some (.inl p1), some (.inl p2), some (.inl v4), some (.inl v4)]) dX10_next_84 rfl rfl rfl rfl rfl ?_
            refine e_r_iinc (pc' := 88) (loc' := [some (.inr (.inr 1)), some (.inl p1), some (.inl p2), some (.inl v4), some (.inl (e_w (v4 + 1)))]) dX10_next_85 rfl rfl rfl rfl rfl ?_
            refine e_r_goto (pc' := 17) dX10_next_88 rfl ?_
            exact h
theorem wp_X10_missed_0 {X : e_X} {d gn : Nat} {o : e_O} (M : e_M) (h : e_G X (d + 1) YX10_missed 4 [some (.inr (.inr 1)), some (.inl 0), some (.inl 0)] [] (557, gn, e_RF, M) o) : e_G X (d + 1) YX10_missed 0 [some (.inr (.inr 1)), none, none] [] (557, gn, e_RF, M) o := by
  refine e_r_iconst (pc' := 1) dX10_missed_0 rfl (by decide) ?_
  refine e_r_istore_n (pc' := 2) (loc' := [some (.inr (.inr 1)), some (.inl 0), none]) dX10_missed_1 rfl rfl rfl rfl rfl ?_
  refine e_r_iconst (pc' := 3) dX10_missed_2 rfl (by decide) ?_
  refine e_r_istore_n (pc' := 4) (loc' := [some (.inr (.inr 1)), some (.inl 0), some (.inl 0)]) dX10_missed_3 rfl rfl rfl rfl rfl ?_
  exact h
theorem wp_X10_missed_4 {X : e_X} {d gn : Nat} {o : e_O} (M : e_M) (v1 v2 : Int) (hmo : e_mn (557, gn, e_RF, M) o.2) (h : (((M 4 2) ≤ v2 → (o = (.inl (some (.inl v1)), (557, gn, e_RF, M)))) ∧ (¬ ((M 4 2) ≤ v2) → (∃ (r4 : Int) (N3 : e_M), e_E X d YX3_isDone [.inr (.inr 36), .inl v2] (557, gn, e_RF, M) (.inl (some (.inl r4)), (557, gn, e_RF, N3)) ∧ ((¬ r4 = 0 → e_G X (d + 1) YX10_missed 4 [some (.inr (.inr 1)), some (.inl v1), some (.inl (e_w (v2 + 1)))] [] (557, gn, e_RF, N3) o) ∧ (r4 = 0 → ((0 ≤ v2 ∧ v2 < 12) ∧ (((N3 36 2) ≤ (N3 42 v2.toNat) → e_G X (d + 1) YX10_missed 4 [some (.inr (.inr 1)), some (.inl v1), some (.inl (e_w (v2 + 1)))] [] (557, gn, e_RF, N3) o) ∧ (¬ ((N3 36 2) ≤ (N3 42 v2.toNat)) → e_G X (d + 1) YX10_missed 4 [some (.inr (.inr 1)), some (.inl (e_or v1 (e_shl 1 v2))), some (.inl (e_w (v2 + 1)))] [] (557, gn, e_RF, N3) o))))))))) : e_G X (d + 1) YX10_missed 4 [some (.inr (.inr 1)), some (.inl v1), some (.inl v2)] [] (557, gn, e_RF, M) o := by
  refine e_r_iload_n (pc' := 5) dX10_missed_4 rfl rfl rfl ?_
  refine e_r_aload_n (pc' := 6) (by decide) dX10_missed_5 rfl rfl rfl ?_
  refine e_r_getr (k := 1) (q := 4) (pc' := 9) cl_10 rfl (Nat.le_of_ble_eq_true rfl) rfl rfl fl_RX10_19 rfl (Nat.le_of_ble_eq_true rfl) dX10_missed_6 rfl ?_
  refine e_r_geti (k := 2) (pc' := 12) cl_8 rfl (Nat.le_of_ble_eq_true rfl) rfl rfl fl_RX10_198 dX10_missed_9 rfl ?_
  obtain ⟨ht1, hf2⟩ := h
  refine e_r_icmp_ge (tgt := 57) (pc' := 15) dX10_missed_12 rfl rfl (fun c => ?_) (fun c => ?_)
  · have h := ht1 c
    refine e_r_iload_n (pc' := 58) dX10_missed_57 rfl rfl rfl ?_
    exact e_r_iret (ty := .int) rfl (e_nI _) dX10_missed_58 h
  · have h := hf2 c
    refine e_r_aload_n (pc' := 16) (by decide) dX10_missed_15 rfl rfl rfl ?_
    refine e_r_getr (k := 8) (q := 36) (pc' := 19) cl_10 rfl (Nat.le_of_ble_eq_true rfl) rfl rfl fl_RX10_58 rfl (Nat.le_of_ble_eq_true rfl) dX10_missed_16 rfl ?_
    refine e_r_iload_n (pc' := 20) dX10_missed_19 rfl rfl rfl ?_
    obtain ⟨r4, N3, he5, h⟩ := h
    refine e_r_callV (a := 36) (av := [.inl v2]) (st := []) mqYX3_isDone ml_RX10_269 cl_3 rfl (Nat.le_of_ble_eq_true rfl) (by simp [e_cat]) rfl rfl rfl dX10_missed_20 (pc' := 23) rfl he5 ⟨Nat.le_refl _, Nat.le_refl _⟩ hmo ?_
    obtain ⟨ht6, hf7⟩ := h
    refine e_r_if_ne (tgt := 51) (pc' := 26) dX10_missed_23 rfl rfl (fun c => ?_) (fun c => ?_)
    · have h := ht6 c
      refine e_r_iinc (pc' := 54) (loc' := [some (.inr (.inr 1)), some (.inl v1), some (.inl (e_w (v2 + 1)))]) dX10_missed_51 rfl rfl rfl rfl rfl ?_
      refine e_r_goto (pc' := 4) dX10_missed_54 rfl ?_
      exact h
    · have h := hf7 c
      refine e_r_aload_n (pc' := 27) (by decide) dX10_missed_26 rfl rfl rfl ?_
      refine e_r_getr (k := 8) (q := 36) (pc' := 30) cl_10 rfl (Nat.le_of_ble_eq_true rfl) rfl rfl fl_RX10_58 rfl (Nat.le_of_ble_eq_true rfl) dX10_missed_27 rfl ?_
      refine e_r_getr (k := 10) (q := 42) (pc' := 33) cl_3 rfl (Nat.le_of_ble_eq_true rfl) rfl rfl fl_RX10_263 rfl (Nat.le_of_ble_eq_true rfl) dX10_missed_30 rfl ?_
      refine e_r_iload_n (pc' := 34) dX10_missed_33 rfl rfl rfl ?_
      obtain ⟨hb8, h⟩ := h
      refine e_r_iald (j9 := v2.toNat) (pc' := 35) rfl (Nat.le_of_ble_eq_true rfl) hb8.1 hb8.2 rfl dX10_missed_34 rfl ?_
      refine e_r_aload_n (pc' := 36) (by decide) dX10_missed_35 rfl rfl rfl ?_
      refine e_r_getr (k := 8) (q := 36) (pc' := 39) cl_10 rfl (Nat.le_of_ble_eq_true rfl) rfl rfl fl_RX10_58 rfl (Nat.le_of_ble_eq_true rfl) dX10_missed_36 rfl ?_
      refine e_r_geti (k := 2) (pc' := 42) cl_3 rfl (Nat.le_of_ble_eq_true rfl) rfl rfl fl_RX10_201 dX10_missed_39 rfl ?_
      obtain ⟨ht9, hf10⟩ := h
      refine e_r_icmp_ge (tgt := 51) (pc' := 45) dX10_missed_42 rfl rfl (fun c => ?_) (fun c => ?_)
      · have h := ht9 c
        refine e_r_iinc (pc' := 54) (loc' := [some (.inr (.inr 1)), some (.inl v1), some (.inl (e_w (v2 + 1)))]) dX10_missed_51 rfl rfl rfl rfl rfl ?_
        refine e_r_goto (pc' := 4) dX10_missed_54 rfl ?_
        exact h
      · have h := hf10 c
        refine e_r_iload_n (pc' := 46) dX10_missed_45 rfl rfl rfl ?_
        refine e_r_iconst (pc' := 47) dX10_missed_46 rfl (by decide) ?_
        refine e_r_iload_n (pc' := 48) dX10_missed_47 rfl rfl rfl ?_
        refine e_r_ishl (pc' := 49) dX10_missed_48 rfl ?_
        refine e_r_ior (pc' := 50) dX10_missed_49 rfl ?_
        refine e_r_istore_n (pc' := 51) (loc' := [some (.inr (.inr 1)), some (.inl (e_or v1 (e_shl 1 v2))), some (.inl v2)]) dX10_missed_50 rfl rfl rfl rfl rfl ?_
        refine e_r_iinc (pc' := 54) (loc' := [some (.inr (.inr 1)), some (.inl (e_or v1 (e_shl 1 v2))), some (.inl (e_w (v2 + 1)))]) dX10_missed_51 rfl rfl rfl rfl rfl ?_
        refine e_r_goto (pc' := 4) dX10_missed_54 rfl ?_
        exact h
theorem wp_X10_due_0 {X : e_X} {d gn : Nat} {o : e_O} (M : e_M) (hmo : e_mn (557, gn, e_RF, M) o.2) (h : (∃ N1 : e_M, e_E X d YX3_copyFrom [.inr (.inr 43), .inr (.inr 36)] (557, gn, e_RF, M) (.inl none, (557, gn, e_RF, N1)) ∧ e_G X (d + 1) YX10_due 15 [some (.inr (.inr 1)), some (.inl 0), some (.inl 0)] [] (557, gn, e_RF, N1) o)) : e_G X (d + 1) YX10_due 0 [some (.inr (.inr 1)), none, none] [] (557, gn, e_RF, M) o := by
  refine e_r_aload_n (pc' := 1) (by decide) dX10_due_0 rfl rfl rfl ?_
  refine e_r_getr (k := 9) (q := 43) (pc' := 4) cl_10 rfl (Nat.le_of_ble_eq_true rfl) rfl rfl fl_RX10_62 rfl (Nat.le_of_ble_eq_true rfl) dX10_due_1 rfl ?_
  refine e_r_aload_n (pc' := 5) (by decide) dX10_due_4 rfl rfl rfl ?_
  refine e_r_getr (k := 8) (q := 36) (pc' := 8) cl_10 rfl (Nat.le_of_ble_eq_true rfl) rfl rfl fl_RX10_58 rfl (Nat.le_of_ble_eq_true rfl) dX10_due_5 rfl ?_
  obtain ⟨N1, he2, h⟩ := h
  refine e_r_callV (a := 43) (av := [.inr (.inr 36)]) (st := []) mqYX3_copyFrom ml_RX10_287 cl_3 rfl (Nat.le_of_ble_eq_true rfl) (by simp [e_cat]) rfl rfl rfl dX10_due_8 (pc' := 11) rfl he2 ⟨Nat.le_refl _, Nat.le_refl _⟩ hmo ?_
  refine e_r_iconst (pc' := 12) dX10_due_11 rfl (by decide) ?_
  refine e_r_istore_n (pc' := 13) (loc' := [some (.inr (.inr 1)), some (.inl 0), none]) dX10_due_12 rfl rfl rfl rfl rfl ?_
  refine e_r_iconst (pc' := 14) dX10_due_13 rfl (by decide) ?_
  refine e_r_istore_n (pc' := 15) (loc' := [some (.inr (.inr 1)), some (.inl 0), some (.inl 0)]) dX10_due_14 rfl rfl rfl rfl rfl ?_
  exact h
theorem wp_X10_due_15 {X : e_X} {d gn : Nat} {o : e_O} (M : e_M) (v1 v2 : Int) (hmo : e_mn (557, gn, e_RF, M) o.2) (h : (((M 4 2) ≤ v2 → (o = (.inl (some (.inl v1)), (557, gn, e_RF, M)))) ∧ (¬ ((M 4 2) ≤ v2) → (∃ (r4 : Int) (N3 : e_M), e_E X d YX3_fallsNow [.inr (.inr 43), .inl v2] (557, gn, e_RF, M) (.inl (some (.inl r4)), (557, gn, e_RF, N3)) ∧ ((r4 = 0 → e_G X (d + 1) YX10_due 15 [some (.inr (.inr 1)), some (.inl v1), some (.inl (e_w (v2 + 1)))] [] (557, gn, e_RF, N3) o) ∧ (¬ (r4 = 0) → ((0 ≤ v2 ∧ v2 < 12) ∧ (∃ (r10 : Int) (N9 : e_M), e_E X d YX3_hasBought [.inr (.inr 43), .inl (N3 9 v2.toNat)] (557, gn, e_RF, N3) (.inl (some (.inl r10)), (557, gn, e_RF, N9)) ∧ ((r10 = 0 → e_G X (d + 1) YX10_due 15 [some (.inr (.inr 1)), some (.inl v1), some (.inl (e_w (v2 + 1)))] [] (557, gn, e_RF, N9) o) ∧ (¬ (r10 = 0) → (∃ (r15 : Int) (N14 : e_M), e_E X d YX3_payFine [.inr (.inr 43), .inl v2] (557, gn, e_RF, N9) (.inl (some (.inl r15)), (557, gn, e_RF, N14)) ∧ e_G X (d + 1) YX10_due 15 [some (.inr (.inr 1)), some (.inl (e_w (v1 + r15))), some (.inl (e_w (v2 + 1)))] [] (557, gn, e_RF, N14) o))))))))))) : e_G X (d + 1) YX10_due 15 [some (.inr (.inr 1)), some (.inl v1), some (.inl v2)] [] (557, gn, e_RF, M) o := by
  refine e_r_iload_n (pc' := 16) dX10_due_15 rfl rfl rfl ?_
  refine e_r_aload_n (pc' := 17) (by decide) dX10_due_16 rfl rfl rfl ?_
  refine e_r_getr (k := 1) (q := 4) (pc' := 20) cl_10 rfl (Nat.le_of_ble_eq_true rfl) rfl rfl fl_RX10_19 rfl (Nat.le_of_ble_eq_true rfl) dX10_due_17 rfl ?_
  refine e_r_geti (k := 2) (pc' := 23) cl_8 rfl (Nat.le_of_ble_eq_true rfl) rfl rfl fl_RX10_198 dX10_due_20 rfl ?_
  obtain ⟨ht1, hf2⟩ := h
  refine e_r_icmp_ge (tgt := 73) (pc' := 26) dX10_due_23 rfl rfl (fun c => ?_) (fun c => ?_)
  · have h := ht1 c
    refine e_r_iload_n (pc' := 74) dX10_due_73 rfl rfl rfl ?_
    exact e_r_iret (ty := .int) rfl (e_nI _) dX10_due_74 h
  · have h := hf2 c
    refine e_r_aload_n (pc' := 27) (by decide) dX10_due_26 rfl rfl rfl ?_
    refine e_r_getr (k := 9) (q := 43) (pc' := 30) cl_10 rfl (Nat.le_of_ble_eq_true rfl) rfl rfl fl_RX10_62 rfl (Nat.le_of_ble_eq_true rfl) dX10_due_27 rfl ?_
    refine e_r_iload_n (pc' := 31) dX10_due_30 rfl rfl rfl ?_
    obtain ⟨r4, N3, he5, h⟩ := h
    refine e_r_callV (a := 43) (av := [.inl v2]) (st := []) mqYX3_fallsNow ml_RX10_350 cl_3 rfl (Nat.le_of_ble_eq_true rfl) (by simp [e_cat]) rfl rfl rfl dX10_due_31 (pc' := 34) rfl he5 ⟨Nat.le_refl _, Nat.le_refl _⟩ hmo ?_
    obtain ⟨ht6, hf7⟩ := h
    refine e_r_if_eq (tgt := 67) (pc' := 37) dX10_due_34 rfl rfl (fun c => ?_) (fun c => ?_)
    · have h := ht6 c
      refine e_r_iinc (pc' := 70) (loc' := [some (.inr (.inr 1)), some (.inl v1), some (.inl (e_w (v2 + 1)))]) dX10_due_67 rfl rfl rfl rfl rfl ?_
      refine e_r_goto (pc' := 15) dX10_due_70 rfl ?_
      exact h
    · have h := hf7 c
      refine e_r_aload_n (pc' := 38) (by decide) dX10_due_37 rfl rfl rfl ?_
      refine e_r_getr (k := 9) (q := 43) (pc' := 41) cl_10 rfl (Nat.le_of_ble_eq_true rfl) rfl rfl fl_RX10_62 rfl (Nat.le_of_ble_eq_true rfl) dX10_due_38 rfl ?_
      refine e_r_aload_n (pc' := 42) (by decide) dX10_due_41 rfl rfl rfl ?_
      refine e_r_getr (k := 1) (q := 4) (pc' := 45) cl_10 rfl (Nat.le_of_ble_eq_true rfl) rfl rfl fl_RX10_19 rfl (Nat.le_of_ble_eq_true rfl) dX10_due_42 rfl ?_
      refine e_r_getr (k := 7) (q := 9) (pc' := 48) cl_8 rfl (Nat.le_of_ble_eq_true rfl) rfl rfl fl_RX10_260 rfl (Nat.le_of_ble_eq_true rfl) dX10_due_45 rfl ?_
      refine e_r_iload_n (pc' := 49) dX10_due_48 rfl rfl rfl ?_
      obtain ⟨hb8, h⟩ := h
      refine e_r_iald (j9 := v2.toNat) (pc' := 50) rfl (Nat.le_of_ble_eq_true rfl) hb8.1 hb8.2 rfl dX10_due_49 rfl ?_
      obtain ⟨r10, N9, he11, h⟩ := h
      refine e_r_callV (a := 43) (av := [.inl (N3 9 v2.toNat)]) (st := []) mqYX3_hasBought ml_RX10_284 cl_3 rfl (Nat.le_of_ble_eq_true rfl) (by simp [e_cat]) rfl rfl rfl dX10_due_50 (pc' := 53) rfl he11 ⟨Nat.le_refl _, Nat.le_refl _⟩ hmo ?_
      obtain ⟨ht12, hf13⟩ := h
      refine e_r_if_eq (tgt := 67) (pc' := 56) dX10_due_53 rfl rfl (fun c => ?_) (fun c => ?_)
      · have h := ht12 c
        refine e_r_iinc (pc' := 70) (loc' := [some (.inr (.inr 1)), some (.inl v1), some (.inl (e_w (v2 + 1)))]) dX10_due_67 rfl rfl rfl rfl rfl ?_
        refine e_r_goto (pc' := 15) dX10_due_70 rfl ?_
        exact h
      · have h := hf13 c
        refine e_r_iload_n (pc' := 57) dX10_due_56 rfl rfl rfl ?_
        refine e_r_aload_n (pc' := 58) (by decide) dX10_due_57 rfl rfl rfl ?_
        refine e_r_getr (k := 9) (q := 43) (pc' := 61) cl_10 rfl (Nat.le_of_ble_eq_true rfl) rfl rfl fl_RX10_62 rfl (Nat.le_of_ble_eq_true rfl) dX10_due_58 rfl ?_
        refine e_r_iload_n (pc' := 62) dX10_due_61 rfl rfl rfl ?_
        obtain ⟨r15, N14, he16, h⟩ := h
        refine e_r_callV (a := 43) (av := [.inl v2]) (st := [.inl v1]) mqYX3_payFine ml_RX10_353 cl_3 rfl (Nat.le_of_ble_eq_true rfl) (by simp [e_cat]) rfl rfl rfl dX10_due_62 (pc' := 65) rfl he16 ⟨Nat.le_refl _, Nat.le_refl _⟩ hmo ?_
        refine e_r_iadd (pc' := 66) dX10_due_65 rfl ?_
        refine e_r_istore_n (pc' := 67) (loc' := [some (.inr (.inr 1)), some (.inl (e_w (v1 + r15))), some (.inl v2)]) dX10_due_66 rfl rfl rfl rfl rfl ?_
        refine e_r_iinc (pc' := 70) (loc' := [some (.inr (.inr 1)), some (.inl (e_w (v1 + r15))), some (.inl (e_w (v2 + 1)))]) dX10_due_67 rfl rfl rfl rfl rfl ?_
        refine e_r_goto (pc' := 15) dX10_due_70 rfl ?_
        exact h
theorem wp_X10_debt_0 {X : e_X} {d gn : Nat} {o : e_O} (M : e_M) (p1 : Int) (hmo : e_mn (557, gn, e_RF, M) o.2) (h : ((∃ N1 : e_M, e_E X d YX10_needPerson [.inr (.inr 1), .inl p1] (557, gn, e_RF, M) (.inl none, (557, gn, e_RF, N1)) ∧ e_G X (d + 1) YX10_debt 9 [some (.inr (.inr 1)), some (.inl p1), some (.inl 0), some (.inl 0)] [] (557, gn, e_RF, N1) o) ∨ (∃ (z3 : Nat) (N4 : e_M), e_E X d YX10_needPerson [.inr (.inr 1), .inl p1] (557, gn, e_RF, M) (.inr z3, (557, gn + 1, e_RF, N4)) ∧ o = (.inr z3, (557, gn + 1, e_RF, N4))))) : e_G X (d + 1) YX10_debt 0 [some (.inr (.inr 1)), some (.inl p1), none, none] [] (557, gn, e_RF, M) o := by
  refine e_r_aload_n (pc' := 1) (by decide) dX10_debt_0 rfl rfl rfl ?_
  refine e_r_iload_n (pc' := 2) dX10_debt_1 rfl rfl rfl ?_
  rcases h with ⟨N1, he2, h⟩ | ⟨z3, N4, he2, h⟩
  · refine e_r_callV (a := 1) (av := [.inl p1]) (st := []) mqYX10_needPerson ml_RX10_222 cl_10 rfl (Nat.le_of_ble_eq_true rfl) (by simp [e_cat]) rfl rfl rfl dX10_debt_2 (pc' := 5) rfl he2 ⟨Nat.le_refl _, Nat.le_refl _⟩ hmo ?_
    refine e_r_iconst (pc' := 6) dX10_debt_5 rfl (by decide) ?_
    refine e_r_istore_n (pc' := 7) (loc' := [some (.inr (.inr 1)), some (.inl p1), some (.inl 0), none]) dX10_debt_6 rfl rfl rfl rfl rfl ?_
    refine e_r_iconst (pc' := 8) dX10_debt_7 rfl (by decide) ?_
    refine e_r_istore_n (pc' := 9) (loc' := [some (.inr (.inr 1)), some (.inl p1), some (.inl 0), some (.inl 0)]) dX10_debt_8 rfl rfl rfl rfl rfl ?_
    exact h
  · exact e_r_callVx (a := 1) (av := [.inl p1]) (st := []) mqYX10_needPerson ml_RX10_222 cl_10 rfl (Nat.le_of_ble_eq_true rfl) (by simp [e_cat]) rfl rfl rfl dX10_debt_2 rfl he2 ⟨Nat.le_refl _, Nat.le_succ _⟩ h
theorem wp_X10_debt_9 {X : e_X} {d gn : Nat} {o : e_O} (M : e_M) (p1 v2 v3 : Int) (hmo : e_mn (557, gn, e_RF, M) o.2) (h : (((M 4 2) ≤ v3 → (o = (.inl (some (.inl v2)), (557, gn, e_RF, M)))) ∧ (¬ ((M 4 2) ≤ v3) → ((0 ≤ v3 ∧ v3 < 12) ∧ ((¬ (M 9 v3.toNat) = p1 → e_G X (d + 1) YX10_debt 9 [some (.inr (.inr 1)), some (.inl p1), some (.inl v2), some (.inl (e_w (v3 + 1)))] [] (557, gn, e_RF, M) o) ∧ ((M 9 v3.toNat) = p1 → (∃ (r7 : Int) (N6 : e_M), e_E X d YX3_isAhead [.inr (.inr 36), .inl v3] (557, gn, e_RF, M) (.inl (some (.inl r7)), (557, gn, e_RF, N6)) ∧ ((r7 = 0 → e_G X (d + 1) YX10_debt 9 [some (.inr (.inr 1)), some (.inl p1), some (.inl v2), some (.inl (e_w (v3 + 1)))] [] (557, gn, e_RF, N6) o) ∧ (¬ (r7 = 0) → ((0 ≤ v3 ∧ v3 < 12) ∧ e_G X (d + 1) YX10_debt 9 [some (.inr (.inr 1)), some (.inl p1), some (.inl (e_w (v2 + (N6 11 v3.toNat)))), some (.inl (e_w (v3 + 1)))] [] (557, gn, e_RF, N6) o)))))))))) : e_G X (d + 1) YX10_debt 9 [some (.inr (.inr 1)), some (.inl p1), some (.inl v2), some (.inl v3)] [] (557, gn, e_RF, M) o := by
  refine e_r_iload_n (pc' := 10) dX10_debt_9 rfl rfl rfl ?_
  refine e_r_aload_n (pc' := 11) (by decide) dX10_debt_10 rfl rfl rfl ?_
  refine e_r_getr (k := 1) (q := 4) (pc' := 14) cl_10 rfl (Nat.le_of_ble_eq_true rfl) rfl rfl fl_RX10_19 rfl (Nat.le_of_ble_eq_true rfl) dX10_debt_11 rfl ?_
  refine e_r_geti (k := 2) (pc' := 17) cl_8 rfl (Nat.le_of_ble_eq_true rfl) rfl rfl fl_RX10_198 dX10_debt_14 rfl ?_
  obtain ⟨ht1, hf2⟩ := h
  refine e_r_icmp_ge (tgt := 62) (pc' := 20) dX10_debt_17 rfl rfl (fun c => ?_) (fun c => ?_)
  · have h := ht1 c
    refine e_r_iload_n (pc' := 63) dX10_debt_62 rfl rfl rfl ?_
    exact e_r_iret (ty := .int) rfl (e_nI _) dX10_debt_63 h
  · have h := hf2 c
    refine e_r_aload_n (pc' := 21) (by decide) dX10_debt_20 rfl rfl rfl ?_
    refine e_r_getr (k := 1) (q := 4) (pc' := 24) cl_10 rfl (Nat.le_of_ble_eq_true rfl) rfl rfl fl_RX10_19 rfl (Nat.le_of_ble_eq_true rfl) dX10_debt_21 rfl ?_
    refine e_r_getr (k := 7) (q := 9) (pc' := 27) cl_8 rfl (Nat.le_of_ble_eq_true rfl) rfl rfl fl_RX10_260 rfl (Nat.le_of_ble_eq_true rfl) dX10_debt_24 rfl ?_
    refine e_r_iload_n (pc' := 28) dX10_debt_27 rfl rfl rfl ?_
    obtain ⟨hb3, h⟩ := h
    refine e_r_iald (j9 := v3.toNat) (pc' := 29) rfl (Nat.le_of_ble_eq_true rfl) hb3.1 hb3.2 rfl dX10_debt_28 rfl ?_
    refine e_r_iload_n (pc' := 30) dX10_debt_29 rfl rfl rfl ?_
    obtain ⟨ht4, hf5⟩ := h
    refine e_r_icmp_ne (tgt := 56) (pc' := 33) dX10_debt_30 rfl rfl (fun c => ?_) (fun c => ?_)
    · have h := ht4 c
      refine e_r_iinc (pc' := 59) (loc' := [some (.inr (.inr 1)), some (.inl p1), some (.inl v2), some (.inl (e_w (v3 + 1)))]) dX10_debt_56 rfl rfl rfl rfl rfl ?_
      refine e_r_goto (pc' := 9) dX10_debt_59 rfl ?_
      exact h
    · have h := hf5 c
      refine e_r_aload_n (pc' := 34) (by decide) dX10_debt_33 rfl rfl rfl ?_
      refine e_r_getr (k := 8) (q := 36) (pc' := 37) cl_10 rfl (Nat.le_of_ble_eq_true rfl) rfl rfl fl_RX10_58 rfl (Nat.le_of_ble_eq_true rfl) dX10_debt_34 rfl ?_
      refine e_r_iload_n (pc' := 38) dX10_debt_37 rfl rfl rfl ?_
      obtain ⟨r7, N6, he8, h⟩ := h
      refine e_r_callV (a := 36) (av := [.inl v3]) (st := []) mqYX3_isAhead ml_RX10_347 cl_3 rfl (Nat.le_of_ble_eq_true rfl) (by simp [e_cat]) rfl rfl rfl dX10_debt_38 (pc' := 41) rfl he8 ⟨Nat.le_refl _, Nat.le_refl _⟩ hmo ?_
      obtain ⟨ht9, hf10⟩ := h
      refine e_r_if_eq (tgt := 56) (pc' := 44) dX10_debt_41 rfl rfl (fun c => ?_) (fun c => ?_)
      · have h := ht9 c
        refine e_r_iinc (pc' := 59) (loc' := [some (.inr (.inr 1)), some (.inl p1), some (.inl v2), some (.inl (e_w (v3 + 1)))]) dX10_debt_56 rfl rfl rfl rfl rfl ?_
        refine e_r_goto (pc' := 9) dX10_debt_59 rfl ?_
        exact h
      · have h := hf10 c
        refine e_r_iload_n (pc' := 45) dX10_debt_44 rfl rfl rfl ?_
        refine e_r_aload_n (pc' := 46) (by decide) dX10_debt_45 rfl rfl rfl ?_
        refine e_r_getr (k := 1) (q := 4) (pc' := 49) cl_10 rfl (Nat.le_of_ble_eq_true rfl) rfl rfl fl_RX10_19 rfl (Nat.le_of_ble_eq_true rfl) dX10_debt_46 rfl ?_
        refine e_r_getr (k := 9) (q := 11) (pc' := 52) cl_8 rfl (Nat.le_of_ble_eq_true rfl) rfl rfl fl_RX10_266 rfl (Nat.le_of_ble_eq_true rfl) dX10_debt_49 rfl ?_
        refine e_r_iload_n (pc' := 53) dX10_debt_52 rfl rfl rfl ?_
        obtain ⟨hb11, h⟩ := h
        refine e_r_iald (j9 := v3.toNat) (pc' := 54) rfl (Nat.le_of_ble_eq_true rfl) hb11.1 hb11.2 rfl dX10_debt_53 rfl ?_
        refine e_r_iadd (pc' := 55) dX10_debt_54 rfl ?_
        refine e_r_istore_n (pc' := 56) (loc' := [some (.inr (.inr 1)), some (.inl p1), some (.inl (e_w (v2 + (N6 11 v3.toNat)))), some (.inl v3)]) dX10_debt_55 rfl rfl rfl rfl rfl ?_
        refine e_r_iinc (pc' := 59) (loc' := [some (.inr (.inr 1)), some (.inl p1), some (.inl (e_w (v2 + (N6 11 v3.toNat)))), some (.inl (e_w (v3 + 1)))]) dX10_debt_56 rfl rfl rfl rfl rfl ?_
        refine e_r_goto (pc' := 9) dX10_debt_59 rfl ?_
        exact h
theorem wp_X10_crowd_0 {X : e_X} {d gn : Nat} {o : e_O} (M : e_M) (p1 : Int) (hmo : e_mn (557, gn, e_RF, M) o.2) (h : ((∃ N1 : e_M, e_E X d YX10_needWithin [.inr (.inr 1), .inl p1, .inl 0, .inl 1] (557, gn, e_RF, M) (.inl none, (557, gn, e_RF, N1)) ∧ e_G X (d + 1) YX10_crowd 14 [some (.inr (.inr 1)), some (.inl p1), some (.inl (-1)), some (.inl 0), some (.inl 0), none] [] (557, gn, e_RF, N1) o) ∨ (∃ (z3 : Nat) (N4 : e_M), e_E X d YX10_needWithin [.inr (.inr 1), .inl p1, .inl 0, .inl 1] (557, gn, e_RF, M) (.inr z3, (557, gn + 1, e_RF, N4)) ∧ o = (.inr z3, (557, gn + 1, e_RF, N4))))) : e_G X (d + 1) YX10_crowd 0 [some (.inr (.inr 1)), some (.inl p1), none, none, none, none] [] (557, gn, e_RF, M) o := by
  refine e_r_aload_n (pc' := 1) (by decide) dX10_crowd_0 rfl rfl rfl ?_
  refine e_r_iload_n (pc' := 2) dX10_crowd_1 rfl rfl rfl ?_
  refine e_r_iconst (pc' := 3) dX10_crowd_2 rfl (by decide) ?_
  refine e_r_iconst (pc' := 4) dX10_crowd_3 rfl (by decide) ?_
  rcases h with ⟨N1, he2, h⟩ | ⟨z3, N4, he2, h⟩
  · refine e_r_callV (a := 1) (av := [.inl p1, .inl 0, .inl 1]) (st := []) mqYX10_needWithin ml_RX10_191 cl_10 rfl (Nat.le_of_ble_eq_true rfl) (by simp [e_cat]) rfl rfl rfl dX10_crowd_4 (pc' := 7) rfl he2 ⟨Nat.le_refl _, Nat.le_refl _⟩ hmo ?_
    refine e_r_iconst (pc' := 8) dX10_crowd_7 rfl (by decide) ?_
    refine e_r_istore_n (pc' := 9) (loc' := [some (.inr (.inr 1)), some (.inl p1), some (.inl (-1)), none, none, none]) dX10_crowd_8 rfl rfl rfl rfl rfl ?_
    refine e_r_iconst (pc' := 10) dX10_crowd_9 rfl (by decide) ?_
    refine e_r_istore_n (pc' := 11) (loc' := [some (.inr (.inr 1)), some (.inl p1), some (.inl (-1)), some (.inl 0), none, none]) dX10_crowd_10 rfl rfl rfl rfl rfl ?_
    refine e_r_iconst (pc' := 12) dX10_crowd_11 rfl (by decide) ?_
    refine e_r_istore (pc' := 14) (loc' := [some (.inr (.inr 1)), some (.inl p1), some (.inl (-1)), some (.inl 0), some (.inl 0), none]) dX10_crowd_12 rfl rfl rfl rfl ?_
    exact h
  · exact e_r_callVx (a := 1) (av := [.inl p1, .inl 0, .inl 1]) (st := []) mqYX10_needWithin ml_RX10_191 cl_10 rfl (Nat.le_of_ble_eq_true rfl) (by simp [e_cat]) rfl rfl rfl dX10_crowd_4 rfl he2 ⟨Nat.le_refl _, Nat.le_succ _⟩ h
theorem wp_X10_crowd_14 {X : e_X} {d gn : Nat} {o : e_O} (M : e_M) (p1 v2 v3 v4 : Int) (hmo : e_mn (557, gn, e_RF, M) o.2) (h : ((60 < v4 → ((¬ v2 = (-1) → ((¬ p1 = 0 → (o = (.inl (some (.inl v3)), (557, gn, e_RF, M)))) ∧ (p1 = 0 → (o = (.inl (some (.inl v2)), (557, gn, e_RF, M)))))) ∧ (v2 = (-1) → (o = (.inl (some (.inl (-1))), (557, gn, e_RF, M)))))) ∧ (¬ (60 < v4) → (∃ (r8 : Int) (N7 : e_M), e_E X d YX3_openTasksOn [.inr (.inr 36), .inl v4] (557, gn, e_RF, M) (.inl (some (.inl r8)), (557, gn, e_RF, N7)) ∧ ((r8 ≤ v3 → e_G X (d + 1) YX10_crowd 14 [some (.inr (.inr 1)), some (.inl p1), some (.inl v2), some (.inl v3), some (.inl (e_w (v4 + 1))), none] [] (557, gn, e_RF, N7) o) ∧ (¬ (r8 ≤ v3) → e_G X (d + 1) YX10_crowd 14 [some (.inr (.inr 1)), some (.inl p1), some (.inl v4), some (.inl r8), some (.inl (e_w (v4 + 1))), none] [] (557, gn, e_RF, N7) o)))))) : e_G X (d + 1) YX10_crowd 14 [some (.inr (.inr 1)), some (.inl p1), some (.inl v2), some (.inl v3), some (.inl v4), none] [] (557, gn, e_RF, M) o := by
  refine e_r_iload (pc' := 16) dX10_crowd_14 rfl rfl ?_
  refine e_r_bipush (pc' := 18) dX10_crowd_16 rfl (by decide) ?_
  obtain ⟨ht1, hf2⟩ := h
  refine e_r_icmp_gt (tgt := 50) (pc' := 21) dX10_crowd_18 rfl rfl (fun c => ?_) (fun c => ?_)
  · have h := ht1 c
    refine e_r_iload_n (pc' := 51) dX10_crowd_50 rfl rfl rfl ?_
    refine e_r_iconst (pc' := 52) dX10_crowd_51 rfl (by decide) ?_
    obtain ⟨ht3, hf4⟩ := h
    refine e_r_icmp_ne (tgt := 57) (pc' := 55) dX10_crowd_52 rfl rfl (fun c => ?_) (fun c => ?_)
    · have h := ht3 c
      refine e_r_iload_n (pc' := 58) dX10_crowd_57 rfl rfl rfl ?_
      obtain ⟨ht5, hf6⟩ := h
      refine e_r_if_ne (tgt := 65) (pc' := 61) dX10_crowd_58 rfl rfl (fun c => ?_) (fun c => ?_)
      · have h := ht5 c
        refine e_r_iload_n (pc' := 66) dX10_crowd_65 rfl rfl rfl ?_
        exact e_r_iret (ty := .int) rfl (e_nI _) dX10_crowd_66 h
      · have h := hf6 c
        refine e_r_iload_n (pc' := 62) dX10_crowd_61 rfl rfl rfl ?_
        refine e_r_goto (pc' := 66) dX10_crowd_62 rfl ?_
        exact e_r_iret (ty := .int) rfl (e_nI _) dX10_crowd_66 h
    · have h := hf4 c
      refine e_r_iconst (pc' := 56) dX10_crowd_55 rfl (by decide) ?_
      exact e_r_iret (ty := .int) rfl (e_nI _) dX10_crowd_56 h
  · have h := hf2 c
    refine e_r_aload_n (pc' := 22) (by decide) dX10_crowd_21 rfl rfl rfl ?_
    refine e_r_getr (k := 8) (q := 36) (pc' := 25) cl_10 rfl (Nat.le_of_ble_eq_true rfl) rfl rfl fl_RX10_58 rfl (Nat.le_of_ble_eq_true rfl) dX10_crowd_22 rfl ?_
    refine e_r_iload (pc' := 27) dX10_crowd_25 rfl rfl ?_
    obtain ⟨r8, N7, he9, h⟩ := h
    refine e_r_callV (a := 36) (av := [.inl v4]) (st := []) mqYX3_openTasksOn ml_RX10_356 cl_3 rfl (Nat.le_of_ble_eq_true rfl) (by simp [e_cat]) rfl rfl rfl dX10_crowd_27 (pc' := 30) rfl he9 ⟨Nat.le_refl _, Nat.le_refl _⟩ hmo ?_
    refine e_r_istore (pc' := 32) (loc' := [some (.inr (.inr 1)), some (.inl p1), some (.inl v2), some (.inl v3), some (.inl v4), some (.inl r8)]) dX10_crowd_30 rfl rfl rfl rfl ?_
    refine e_r_iload (pc' := 34) dX10_crowd_32 rfl rfl ?_
    refine e_r_iload_n (pc' := 35) dX10_crowd_34 rfl rfl rfl ?_
    obtain ⟨ht10, hf11⟩ := h
    refine e_r_icmp_le (tgt := 44) (pc' := 38) dX10_crowd_35 rfl rfl (fun c => ?_) (fun c => ?_)
    · have h := ht10 c
      refine e_r_iinc (pc' := 47) (loc' := [some (.inr (.inr 1)), some (.inl p1), some (.inl v2), some (.inl v3), some (.inl (e_w (v4 + 1))), some (.inl r8)]) dX10_crowd_44 rfl rfl rfl rfl rfl ?_
      refine e_r_goto (pc' := 14) dX10_crowd_47 rfl ?_
      exact e_forget (m := [true, true, true, true, true, false]) h rfl
    · have h := hf11 c
      refine e_r_iload (pc' := 40) dX10_crowd_38 rfl rfl ?_
      refine e_r_istore_n (pc' := 41) (loc' := [some (.inr (.inr 1)), some (.inl p1), some (.inl v4), some (.inl v3), some (.inl v4), some (.inl r8)]) dX10_crowd_40 rfl rfl rfl rfl rfl ?_
      refine e_r_iload (pc' := 43) dX10_crowd_41 rfl rfl ?_
      refine e_r_istore_n (pc' := 44) (loc' := [some (.inr (.inr 1)), some (.inl p1), some (.inl v4), some (.inl r8), some (.inl v4), some (.inl r8)]) dX10_crowd_43 rfl rfl rfl rfl rfl ?_
      refine e_r_iinc (pc' := 47) (loc' := [some (.inr (.inr 1)), some (.inl p1), some (.inl v4), some (.inl r8), some (.inl (e_w (v4 + 1))), some (.inl r8)]) dX10_crowd_44 rfl rfl rfl rfl rfl ?_
      refine e_r_goto (pc' := 14) dX10_crowd_47 rfl ?_
      exact e_forget (m := [true, true, true, true, true, false]) h rfl
theorem wp_X10_clear_0 {X : e_X} {d gn : Nat} {o : e_O} (M : e_M) (p1 p2 : Int) (hmo : e_mn (557, gn, e_RF, M) o.2) (h : ((∃ N1 : e_M, e_E X d YX10_needPerson [.inr (.inr 1), .inl p1] (557, gn, e_RF, M) (.inl none, (557, gn, e_RF, N1)) ∧ ((∃ N5 : e_M, e_E X d YX10_needWithin [.inr (.inr 1), .inl p2, .inl 0, .inl 20] (557, gn, e_RF, N1) (.inl none, (557, gn, e_RF, N5)) ∧ (∃ (r10 : Int) (N9 : e_M), e_E X d YX10_bitsBelow [.inl p2] (557, gn, e_RF, N5) (.inl (some (.inl r10)), (557, gn, e_RF, N9)) ∧ (∃ (r13 : Int) (N12 : e_M), e_E X d YX3_busyBits [.inr (.inr 36), .inl p1, .inl p2] (557, gn, e_RF, N9) (.inl (some (.inl r13)), (557, gn, e_RF, N12)) ∧ (o = (.inl (some (.inl (e_and r10 (e_xor r13 (-1))))), (557, gn, e_RF, N12)))))) ∨ (∃ (z7 : Nat) (N8 : e_M), e_E X d YX10_needWithin [.inr (.inr 1), .inl p2, .inl 0, .inl 20] (557, gn, e_RF, N1) (.inr z7, (557, gn + 1, e_RF, N8)) ∧ o = (.inr z7, (557, gn + 1, e_RF, N8))))) ∨ (∃ (z3 : Nat) (N4 : e_M), e_E X d YX10_needPerson [.inr (.inr 1), .inl p1] (557, gn, e_RF, M) (.inr z3, (557, gn + 1, e_RF, N4)) ∧ o = (.inr z3, (557, gn + 1, e_RF, N4))))) : e_G X (d + 1) YX10_clear 0 [some (.inr (.inr 1)), some (.inl p1), some (.inl p2)] [] (557, gn, e_RF, M) o := by
  refine e_r_aload_n (pc' := 1) (by decide) dX10_clear_0 rfl rfl rfl ?_
  refine e_r_iload_n (pc' := 2) dX10_clear_1 rfl rfl rfl ?_
  rcases h with ⟨N1, he2, h⟩ | ⟨z3, N4, he2, h⟩
  · refine e_r_callV (a := 1) (av := [.inl p1]) (st := []) mqYX10_needPerson ml_RX10_222 cl_10 rfl (Nat.le_of_ble_eq_true rfl) (by simp [e_cat]) rfl rfl rfl dX10_clear_2 (pc' := 5) rfl he2 ⟨Nat.le_refl _, Nat.le_refl _⟩ hmo ?_
    refine e_r_aload_n (pc' := 6) (by decide) dX10_clear_5 rfl rfl rfl ?_
    refine e_r_iload_n (pc' := 7) dX10_clear_6 rfl rfl rfl ?_
    refine e_r_iconst (pc' := 8) dX10_clear_7 rfl (by decide) ?_
    refine e_r_bipush (pc' := 10) dX10_clear_8 rfl (by decide) ?_
    rcases h with ⟨N5, he6, h⟩ | ⟨z7, N8, he6, h⟩
    · refine e_r_callV (a := 1) (av := [.inl p2, .inl 0, .inl 20]) (st := []) mqYX10_needWithin ml_RX10_191 cl_10 rfl (Nat.le_of_ble_eq_true rfl) (by simp [e_cat]) rfl rfl rfl dX10_clear_10 (pc' := 13) rfl he6 ⟨Nat.le_refl _, Nat.le_refl _⟩ hmo ?_
      refine e_r_iload_n (pc' := 14) dX10_clear_13 rfl rfl rfl ?_
      obtain ⟨r10, N9, he11, h⟩ := h
      refine e_r_callS (av := [.inl p2]) (st := []) mqYX10_bitsBelow ml_RX10_330 (by simp [e_cat]) rfl rfl rfl dX10_clear_14 (pc' := 17) rfl he11 ⟨Nat.le_refl _, Nat.le_refl _⟩ hmo ?_
      refine e_r_aload_n (pc' := 18) (by decide) dX10_clear_17 rfl rfl rfl ?_
      refine e_r_getr (k := 8) (q := 36) (pc' := 21) cl_10 rfl (Nat.le_of_ble_eq_true rfl) rfl rfl fl_RX10_58 rfl (Nat.le_of_ble_eq_true rfl) dX10_clear_18 rfl ?_
      refine e_r_iload_n (pc' := 22) dX10_clear_21 rfl rfl rfl ?_
      refine e_r_iload_n (pc' := 23) dX10_clear_22 rfl rfl rfl ?_
      obtain ⟨r13, N12, he14, h⟩ := h
      refine e_r_callV (a := 36) (av := [.inl p1, .inl p2]) (st := [.inl r10]) mqYX3_busyBits ml_RX10_359 cl_3 rfl (Nat.le_of_ble_eq_true rfl) (by simp [e_cat]) rfl rfl rfl dX10_clear_23 (pc' := 26) rfl he14 ⟨Nat.le_refl _, Nat.le_refl _⟩ hmo ?_
      refine e_r_iconst (pc' := 27) dX10_clear_26 rfl (by decide) ?_
      refine e_r_ixor (pc' := 28) dX10_clear_27 rfl ?_
      refine e_r_iand (pc' := 29) dX10_clear_28 rfl ?_
      exact e_r_iret (ty := .int) rfl (e_nI _) dX10_clear_29 h
    · exact e_r_callVx (a := 1) (av := [.inl p2, .inl 0, .inl 20]) (st := []) mqYX10_needWithin ml_RX10_191 cl_10 rfl (Nat.le_of_ble_eq_true rfl) (by simp [e_cat]) rfl rfl rfl dX10_clear_10 rfl he6 ⟨Nat.le_refl _, Nat.le_succ _⟩ h
  · exact e_r_callVx (a := 1) (av := [.inl p1]) (st := []) mqYX10_needPerson ml_RX10_222 cl_10 rfl (Nat.le_of_ble_eq_true rfl) (by simp [e_cat]) rfl rfl rfl dX10_clear_2 rfl he2 ⟨Nat.le_refl _, Nat.le_succ _⟩ h
theorem wp_X10_apart_0 {X : e_X} {d gn : Nat} {o : e_O} (M : e_M) (p1 p2 p3 : Int) (hmo : e_mn (557, gn, e_RF, M) o.2) (h : ((∃ N1 : e_M, e_E X d YX10_needTwo [.inr (.inr 1), .inl p1, .inl p2, .inl p3] (557, gn, e_RF, M) (.inl none, (557, gn, e_RF, N1)) ∧ (∃ (r6 : Int) (N5 : e_M), e_E X d YX0_hasBoth [.inr (.inr 28), .inl p1, .inl p2] (557, gn, e_RF, N1) (.inl (some (.inl r6)), (557, gn, e_RF, N5)) ∧ ((¬ r6 = 0 → (∃ (r11 : Int) (N10 : e_M), e_E X d YX0_mondaysHad [.inr (.inr 28), .inl p1, .inl p3] (557, gn, e_RF, N5) (.inl (some (.inl r11)), (557, gn, e_RF, N10)) ∧ (∃ (r14 : Int) (N13 : e_M), e_E X d YX0_mondaysHad [.inr (.inr 28), .inl p2, .inl p3] (557, gn, e_RF, N10) (.inl (some (.inl r14)), (557, gn, e_RF, N13)) ∧ ((r11 = (-1) → (o = (.inl (some (.inl 0)), (557, gn, e_RF, N13)))) ∧ (¬ (r11 = (-1)) → ((¬ r14 = (-1) → (∃ (r21 : Int) (N20 : e_M), e_E X d YX10_choose [.inl p3, .inl r11] (557, gn, e_RF, N13) (.inl (some (.inr (.inl r21))), (557, gn, e_RF, N20)) ∧ (∃ (r24 : Int) (N23 : e_M), e_E X d YX10_choose [.inl (e_w (p3 - r11)), .inl r14] (557, gn, e_RF, N20) (.inl (some (.inr (.inl r24))), (557, gn, e_RF, N23)) ∧ (o = (.inl (some (.inl (e_w (e_wl (r21 * r24))))), (557, gn, e_RF, N23)))))) ∧ (r14 = (-1) → (o = (.inl (some (.inl 0)), (557, gn, e_RF, N13)))))))))) ∧ (r6 = 0 → (o = (.inl (some (.inl (-1))), (557, gn, e_RF, N5))))))) ∨ (∃ (z3 : Nat) (N4 : e_M), e_E X d YX10_needTwo [.inr (.inr 1), .inl p1, .inl p2, .inl p3] (557, gn, e_RF, M) (.inr z3, (557, gn + 1, e_RF, N4)) ∧ o = (.inr z3, (557, gn + 1, e_RF, N4))))) : e_G X (d + 1) YX10_apart 0 [some (.inr (.inr 1)), some (.inl p1), some (.inl p2), some (.inl p3), none, none] [] (557, gn, e_RF, M) o := by
  refine e_r_aload_n (pc' := 1) (by decide) dX10_apart_0 rfl rfl rfl ?_
  refine e_r_iload_n (pc' := 2) dX10_apart_1 rfl rfl rfl ?_
  refine e_r_iload_n (pc' := 3) dX10_apart_2 rfl rfl rfl ?_
  refine e_r_iload_n (pc' := 4) dX10_apart_3 rfl rfl rfl ?_
  rcases h with ⟨N1, he2, h⟩ | ⟨z3, N4, he2, h⟩
  · refine e_r_callV (a := 1) (av := [.inl p1, .inl p2, .inl p3]) (st := []) mqYX10_needTwo ml_RX10_362 cl_10 rfl (Nat.le_of_ble_eq_true rfl) (by simp [e_cat]) rfl rfl rfl dX10_apart_4 (pc' := 7) rfl he2 ⟨Nat.le_refl _, Nat.le_refl _⟩ hmo ?_
    refine e_r_aload_n (pc' := 8) (by decide) dX10_apart_7 rfl rfl rfl ?_
    refine e_r_getr (k := 5) (q := 28) (pc' := 11) cl_10 rfl (Nat.le_of_ble_eq_true rfl) rfl rfl fl_RX10_39 rfl (Nat.le_of_ble_eq_true rfl) dX10_apart_8 rfl ?_
    refine e_r_iload_n (pc' := 12) dX10_apart_11 rfl rfl rfl ?_
    refine e_r_iload_n (pc' := 13) dX10_apart_12 rfl rfl rfl ?_
    obtain ⟨r6, N5, he7, h⟩ := h
    refine e_r_callV (a := 28) (av := [.inl p1, .inl p2]) (st := []) mqYX0_hasBoth ml_RX10_365 cl_0 rfl (Nat.le_of_ble_eq_true rfl) (by simp [e_cat]) rfl rfl rfl dX10_apart_13 (pc' := 16) rfl he7 ⟨Nat.le_refl _, Nat.le_refl _⟩ hmo ?_
    obtain ⟨ht8, hf9⟩ := h
    refine e_r_if_ne (tgt := 21) (pc' := 19) dX10_apart_16 rfl rfl (fun c => ?_) (fun c => ?_)
    · have h := ht8 c
      refine e_r_aload_n (pc' := 22) (by decide) dX10_apart_21 rfl rfl rfl ?_
      refine e_r_getr (k := 5) (q := 28) (pc' := 25) cl_10 rfl (Nat.le_of_ble_eq_true rfl) rfl rfl fl_RX10_39 rfl (Nat.le_of_ble_eq_true rfl) dX10_apart_22 rfl ?_
      refine e_r_iload_n (pc' := 26) dX10_apart_25 rfl rfl rfl ?_
      refine e_r_iload_n (pc' := 27) dX10_apart_26 rfl rfl rfl ?_
      obtain ⟨r11, N10, he12, h⟩ := h
      refine e_r_callV (a := 28) (av := [.inl p1, .inl p3]) (st := []) mqYX0_mondaysHad ml_RX10_369 cl_0 rfl (Nat.le_of_ble_eq_true rfl) (by simp [e_cat]) rfl rfl rfl dX10_apart_27 (pc' := 30) rfl he12 ⟨Nat.le_refl _, Nat.le_refl _⟩ hmo ?_
      refine e_r_istore (pc' := 32) (loc' := [some (.inr (.inr 1)), some (.inl p1), some (.inl p2), some (.inl p3), some (.inl r11), none]) dX10_apart_30 rfl rfl rfl rfl ?_
      refine e_r_aload_n (pc' := 33) (by decide) dX10_apart_32 rfl rfl rfl ?_
      refine e_r_getr (k := 5) (q := 28) (pc' := 36) cl_10 rfl (Nat.le_of_ble_eq_true rfl) rfl rfl fl_RX10_39 rfl (Nat.le_of_ble_eq_true rfl) dX10_apart_33 rfl ?_
      refine e_r_iload_n (pc' := 37) dX10_apart_36 rfl rfl rfl ?_
      refine e_r_iload_n (pc' := 38) dX10_apart_37 rfl rfl rfl ?_
      obtain ⟨r14, N13, he15, h⟩ := h
      refine e_r_callV (a := 28) (av := [.inl p2, .inl p3]) (st := []) mqYX0_mondaysHad ml_RX10_369 cl_0 rfl (Nat.le_of_ble_eq_true rfl) (by simp [e_cat]) rfl rfl rfl dX10_apart_38 (pc' := 41) rfl he15 ⟨Nat.le_refl _, Nat.le_refl _⟩ hmo ?_
      refine e_r_istore (pc' := 43) (loc' := [some (.inr (.inr 1)), some (.inl p1), some (.inl p2), some (.inl p3), some (.inl r11), some (.inl r14)]) dX10_apart_41 rfl rfl rfl rfl ?_
      refine e_r_iload (pc' := 45) dX10_apart_43 rfl rfl ?_
      refine e_r_iconst (pc' := 46) dX10_apart_45 rfl (by decide) ?_
      obtain ⟨ht16, hf17⟩ := h
      refine e_r_icmp_eq (tgt := 55) (pc' := 49) dX10_apart_46 rfl rfl (fun c => ?_) (fun c => ?_)
      · have h := ht16 c
        refine e_r_iconst (pc' := 56) dX10_apart_55 rfl (by decide) ?_
        exact e_r_iret (ty := .int) rfl (e_nI _) dX10_apart_56 h
      · have h := hf17 c
        refine e_r_iload (pc' := 51) dX10_apart_49 rfl rfl ?_
        refine e_r_iconst (pc' := 52) dX10_apart_51 rfl (by decide) ?_
        obtain ⟨ht18, hf19⟩ := h
        refine e_r_icmp_ne (tgt := 57) (pc' := 55) dX10_apart_52 rfl rfl (fun c => ?_) (fun c => ?_)
        · have h := ht18 c
          refine e_r_iload_n (pc' := 58) dX10_apart_57 rfl rfl rfl ?_
          refine e_r_iload (pc' := 60) dX10_apart_58 rfl rfl ?_
          obtain ⟨r21, N20, he22, h⟩ := h
          refine e_r_callS (av := [.inl p3, .inl r11]) (st := []) mqYX10_choose ml_RX10_372 (by simp [e_cat]) rfl rfl rfl dX10_apart_60 (pc' := 63) rfl he22 ⟨Nat.le_refl _, Nat.le_refl _⟩ hmo ?_
          refine e_r_iload_n (pc' := 64) dX10_apart_63 rfl rfl rfl ?_
          refine e_r_iload (pc' := 66) dX10_apart_64 rfl rfl ?_
          refine e_r_isub (pc' := 67) dX10_apart_66 rfl ?_
          refine e_r_iload (pc' := 69) dX10_apart_67 rfl rfl ?_
          obtain ⟨r24, N23, he25, h⟩ := h
          refine e_r_callS (av := [.inl (e_w (p3 - r11)), .inl r14]) (st := [.inr (.inl r21)]) mqYX10_choose ml_RX10_372 (by simp [e_cat]) rfl rfl rfl dX10_apart_69 (pc' := 72) rfl he25 ⟨Nat.le_refl _, Nat.le_refl _⟩ hmo ?_
          refine e_r_lmul (pc' := 73) dX10_apart_72 rfl ?_
          refine e_r_l2i (pc' := 74) dX10_apart_73 rfl ?_
          exact e_r_iret (ty := .int) rfl (e_nI _) dX10_apart_74 h
        · have h := hf19 c
          refine e_r_iconst (pc' := 56) dX10_apart_55 rfl (by decide) ?_
          exact e_r_iret (ty := .int) rfl (e_nI _) dX10_apart_56 h
    · have h := hf9 c
      refine e_r_iconst (pc' := 20) dX10_apart_19 rfl (by decide) ?_
      exact e_r_iret (ty := .int) rfl (e_nI _) dX10_apart_20 h
  · exact e_r_callVx (a := 1) (av := [.inl p1, .inl p2, .inl p3]) (st := []) mqYX10_needTwo ml_RX10_362 cl_10 rfl (Nat.le_of_ble_eq_true rfl) (by simp [e_cat]) rfl rfl rfl dX10_apart_4 rfl he2 ⟨Nat.le_refl _, Nat.le_succ _⟩ h
theorem wp_X10_together_0 {X : e_X} {d gn : Nat} {o : e_O} (M : e_M) (p1 p2 p3 : Int) (hmo : e_mn (557, gn, e_RF, M) o.2) (h : ((∃ N1 : e_M, e_E X d YX10_needTwo [.inr (.inr 1), .inl p1, .inl p2, .inl p3] (557, gn, e_RF, M) (.inl none, (557, gn, e_RF, N1)) ∧ (∃ (r6 : Int) (N5 : e_M), e_E X d YX0_hasBoth [.inr (.inr 28), .inl p1, .inl p2] (557, gn, e_RF, N1) (.inl (some (.inl r6)), (557, gn, e_RF, N5)) ∧ ((¬ r6 = 0 → (∃ (r11 : Int) (N10 : e_M), e_E X d YX0_mondaysHad [.inr (.inr 28), .inl p1, .inl p3] (557, gn, e_RF, N5) (.inl (some (.inl r11)), (557, gn, e_RF, N10)) ∧ (∃ (r14 : Int) (N13 : e_M), e_E X d YX0_mondaysHad [.inr (.inr 28), .inl p2, .inl p3] (557, gn, e_RF, N10) (.inl (some (.inl r14)), (557, gn, e_RF, N13)) ∧ ((r11 = (-1) → (o = (.inl (some (.inl (-1))), (557, gn, e_RF, N13)))) ∧ (¬ (r11 = (-1)) → ((¬ r14 = (-1) → (o = (.inl (some (.inl (max 0 (e_w ((e_w (r11 + r14)) - p3))))), (557, gn, e_RF, N13)))) ∧ (r14 = (-1) → (o = (.inl (some (.inl (-1))), (557, gn, e_RF, N13)))))))))) ∧ (r6 = 0 → (o = (.inl (some (.inl (-1))), (557, gn, e_RF, N5))))))) ∨ (∃ (z3 : Nat) (N4 : e_M), e_E X d YX10_needTwo [.inr (.inr 1), .inl p1, .inl p2, .inl p3] (557, gn, e_RF, M) (.inr z3, (557, gn + 1, e_RF, N4)) ∧ o = (.inr z3, (557, gn + 1, e_RF, N4))))) : e_G X (d + 1) YX10_together 0 [some (.inr (.inr 1)), some (.inl p1), some (.inl p2), some (.inl p3), none, none] [] (557, gn, e_RF, M) o := by
  refine e_r_aload_n (pc' := 1) (by decide) dX10_together_0 rfl rfl rfl ?_
  refine e_r_iload_n (pc' := 2) dX10_together_1 rfl rfl rfl ?_
  refine e_r_iload_n (pc' := 3) dX10_together_2 rfl rfl rfl ?_
  refine e_r_iload_n (pc' := 4) dX10_together_3 rfl rfl rfl ?_
  rcases h with ⟨N1, he2, h⟩ | ⟨z3, N4, he2, h⟩
  · refine e_r_callV (a := 1) (av := [.inl p1, .inl p2, .inl p3]) (st := []) mqYX10_needTwo ml_RX10_362 cl_10 rfl (Nat.le_of_ble_eq_true rfl) (by simp [e_cat]) rfl rfl rfl dX10_together_4 (pc' := 7) rfl he2 ⟨Nat.le_refl _, Nat.le_refl _⟩ hmo ?_
    refine e_r_aload_n (pc' := 8) (by decide) dX10_together_7 rfl rfl rfl ?_
    refine e_r_getr (k := 5) (q := 28) (pc' := 11) cl_10 rfl (Nat.le_of_ble_eq_true rfl) rfl rfl fl_RX10_39 rfl (Nat.le_of_ble_eq_true rfl) dX10_together_8 rfl ?_
    refine e_r_iload_n (pc' := 12) dX10_together_11 rfl rfl rfl ?_
    refine e_r_iload_n (pc' := 13) dX10_together_12 rfl rfl rfl ?_
    obtain ⟨r6, N5, he7, h⟩ := h
    refine e_r_callV (a := 28) (av := [.inl p1, .inl p2]) (st := []) mqYX0_hasBoth ml_RX10_365 cl_0 rfl (Nat.le_of_ble_eq_true rfl) (by simp [e_cat]) rfl rfl rfl dX10_together_13 (pc' := 16) rfl he7 ⟨Nat.le_refl _, Nat.le_refl _⟩ hmo ?_
    obtain ⟨ht8, hf9⟩ := h
    refine e_r_if_ne (tgt := 21) (pc' := 19) dX10_together_16 rfl rfl (fun c => ?_) (fun c => ?_)
    · have h := ht8 c
      refine e_r_aload_n (pc' := 22) (by decide) dX10_together_21 rfl rfl rfl ?_
      refine e_r_getr (k := 5) (q := 28) (pc' := 25) cl_10 rfl (Nat.le_of_ble_eq_true rfl) rfl rfl fl_RX10_39 rfl (Nat.le_of_ble_eq_true rfl) dX10_together_22 rfl ?_
      refine e_r_iload_n (pc' := 26) dX10_together_25 rfl rfl rfl ?_
      refine e_r_iload_n (pc' := 27) dX10_together_26 rfl rfl rfl ?_
      obtain ⟨r11, N10, he12, h⟩ := h
      refine e_r_callV (a := 28) (av := [.inl p1, .inl p3]) (st := []) mqYX0_mondaysHad ml_RX10_369 cl_0 rfl (Nat.le_of_ble_eq_true rfl) (by simp [e_cat]) rfl rfl rfl dX10_together_27 (pc' := 30) rfl he12 ⟨Nat.le_refl _, Nat.le_refl _⟩ hmo ?_
      refine e_r_istore (pc' := 32) (loc' := [some (.inr (.inr 1)), some (.inl p1), some (.inl p2), some (.inl p3), some (.inl r11), none]) dX10_together_30 rfl rfl rfl rfl ?_
      refine e_r_aload_n (pc' := 33) (by decide) dX10_together_32 rfl rfl rfl ?_
      refine e_r_getr (k := 5) (q := 28) (pc' := 36) cl_10 rfl (Nat.le_of_ble_eq_true rfl) rfl rfl fl_RX10_39 rfl (Nat.le_of_ble_eq_true rfl) dX10_together_33 rfl ?_
      refine e_r_iload_n (pc' := 37) dX10_together_36 rfl rfl rfl ?_
      refine e_r_iload_n (pc' := 38) dX10_together_37 rfl rfl rfl ?_
      obtain ⟨r14, N13, he15, h⟩ := h
      refine e_r_callV (a := 28) (av := [.inl p2, .inl p3]) (st := []) mqYX0_mondaysHad ml_RX10_369 cl_0 rfl (Nat.le_of_ble_eq_true rfl) (by simp [e_cat]) rfl rfl rfl dX10_together_38 (pc' := 41) rfl he15 ⟨Nat.le_refl _, Nat.le_refl _⟩ hmo ?_
      refine e_r_istore (pc' := 43) (loc' := [some (.inr (.inr 1)), some (.inl p1), some (.inl p2), some (.inl p3), some (.inl r11), some (.inl r14)]) dX10_together_41 rfl rfl rfl rfl ?_
      refine e_r_iload (pc' := 45) dX10_together_43 rfl rfl ?_
      refine e_r_iconst (pc' := 46) dX10_together_45 rfl (by decide) ?_
      obtain ⟨ht16, hf17⟩ := h
      refine e_r_icmp_eq (tgt := 55) (pc' := 49) dX10_together_46 rfl rfl (fun c => ?_) (fun c => ?_)
      · have h := ht16 c
        refine e_r_iconst (pc' := 56) dX10_together_55 rfl (by decide) ?_
        exact e_r_iret (ty := .int) rfl (e_nI _) dX10_together_56 h
      · have h := hf17 c
        refine e_r_iload (pc' := 51) dX10_together_49 rfl rfl ?_
        refine e_r_iconst (pc' := 52) dX10_together_51 rfl (by decide) ?_
        obtain ⟨ht18, hf19⟩ := h
        refine e_r_icmp_ne (tgt := 57) (pc' := 55) dX10_together_52 rfl rfl (fun c => ?_) (fun c => ?_)
        · have h := ht18 c
          refine e_r_iconst (pc' := 58) dX10_together_57 rfl (by decide) ?_
          refine e_r_iload (pc' := 60) dX10_together_58 rfl rfl ?_
          refine e_r_iload (pc' := 62) dX10_together_60 rfl rfl ?_
          refine e_r_iadd (pc' := 63) dX10_together_62 rfl ?_
          refine e_r_iload_n (pc' := 64) dX10_together_63 rfl rfl rfl ?_
          refine e_r_isub (pc' := 65) dX10_together_64 rfl ?_
          refine e_r_max (pc' := 68) lk_RX10_321 rfl dX10_together_65 rfl ?_
          exact e_r_iret (ty := .int) rfl (e_nI _) dX10_together_68 h
        · have h := hf19 c
          refine e_r_iconst (pc' := 56) dX10_together_55 rfl (by decide) ?_
          exact e_r_iret (ty := .int) rfl (e_nI _) dX10_together_56 h
    · have h := hf9 c
      refine e_r_iconst (pc' := 20) dX10_together_19 rfl (by decide) ?_
      exact e_r_iret (ty := .int) rfl (e_nI _) dX10_together_20 h
  · exact e_r_callVx (a := 1) (av := [.inl p1, .inl p2, .inl p3]) (st := []) mqYX10_needTwo ml_RX10_362 cl_10 rfl (Nat.le_of_ble_eq_true rfl) (by simp [e_cat]) rfl rfl rfl dX10_together_4 rfl he2 ⟨Nat.le_refl _, Nat.le_succ _⟩ h
theorem wp_X10_met_0 {X : e_X} {d gn : Nat} {o : e_O} (M : e_M) (p1 p2 p3 : Int) (hmo : e_mn (557, gn, e_RF, M) o.2) (h : ((∃ N1 : e_M, e_E X d YX10_needWithin [.inr (.inr 1), .inl p1, .inl 0, .inl 7] (557, gn, e_RF, M) (.inl none, (557, gn, e_RF, N1)) ∧ ((∃ N5 : e_M, e_E X d YX10_needWithin [.inr (.inr 1), .inl p2, .inl 0, .inl 16] (557, gn, e_RF, N1) (.inl none, (557, gn, e_RF, N5)) ∧ ((∃ N9 : e_M, e_E X d YX10_needWithin [.inr (.inr 1), .inl p3, .inl 0, .inl 1] (557, gn, e_RF, N5) (.inl none, (557, gn, e_RF, N9)) ∧ e_G X (d + 1) YX10_met 32 [some (.inr (.inr 1)), some (.inl p1), some (.inl p2), some (.inl p3), some (.inr (.inl 1)), none, some (.inr (.inl 1)), none, some (.inl 0), none, none, none, none] [] (557, gn, e_RF, N9) o) ∨ (∃ (z11 : Nat) (N12 : e_M), e_E X d YX10_needWithin [.inr (.inr 1), .inl p3, .inl 0, .inl 1] (557, gn, e_RF, N5) (.inr z11, (557, gn + 1, e_RF, N12)) ∧ o = (.inr z11, (557, gn + 1, e_RF, N12))))) ∨ (∃ (z7 : Nat) (N8 : e_M), e_E X d YX10_needWithin [.inr (.inr 1), .inl p2, .inl 0, .inl 16] (557, gn, e_RF, N1) (.inr z7, (557, gn + 1, e_RF, N8)) ∧ o = (.inr z7, (557, gn + 1, e_RF, N8))))) ∨ (∃ (z3 : Nat) (N4 : e_M), e_E X d YX10_needWithin [.inr (.inr 1), .inl p1, .inl 0, .inl 7] (557, gn, e_RF, M) (.inr z3, (557, gn + 1, e_RF, N4)) ∧ o = (.inr z3, (557, gn + 1, e_RF, N4))))) : e_G X (d + 1) YX10_met 0 [some (.inr (.inr 1)), some (.inl p1), some (.inl p2), some (.inl p3), none, none, none, none, none, none, none, none, none] [] (557, gn, e_RF, M) o := by
  refine e_r_aload_n (pc' := 1) (by decide) dX10_met_0 rfl rfl rfl ?_
  refine e_r_iload_n (pc' := 2) dX10_met_1 rfl rfl rfl ?_
  refine e_r_iconst (pc' := 3) dX10_met_2 rfl (by decide) ?_
  refine e_r_bipush (pc' := 5) dX10_met_3 rfl (by decide) ?_
  rcases h with ⟨N1, he2, h⟩ | ⟨z3, N4, he2, h⟩
  · refine e_r_callV (a := 1) (av := [.inl p1, .inl 0, .inl 7]) (st := []) mqYX10_needWithin ml_RX10_191 cl_10 rfl (Nat.le_of_ble_eq_true rfl) (by simp [e_cat]) rfl rfl rfl dX10_met_5 (pc' := 8) rfl he2 ⟨Nat.le_refl _, Nat.le_refl _⟩ hmo ?_
    refine e_r_aload_n (pc' := 9) (by decide) dX10_met_8 rfl rfl rfl ?_
    refine e_r_iload_n (pc' := 10) dX10_met_9 rfl rfl rfl ?_
    refine e_r_iconst (pc' := 11) dX10_met_10 rfl (by decide) ?_
    refine e_r_bipush (pc' := 13) dX10_met_11 rfl (by decide) ?_
    rcases h with ⟨N5, he6, h⟩ | ⟨z7, N8, he6, h⟩
    · refine e_r_callV (a := 1) (av := [.inl p2, .inl 0, .inl 16]) (st := []) mqYX10_needWithin ml_RX10_191 cl_10 rfl (Nat.le_of_ble_eq_true rfl) (by simp [e_cat]) rfl rfl rfl dX10_met_13 (pc' := 16) rfl he6 ⟨Nat.le_refl _, Nat.le_refl _⟩ hmo ?_
      refine e_r_aload_n (pc' := 17) (by decide) dX10_met_16 rfl rfl rfl ?_
      refine e_r_iload_n (pc' := 18) dX10_met_17 rfl rfl rfl ?_
      refine e_r_iconst (pc' := 19) dX10_met_18 rfl (by decide) ?_
      refine e_r_iconst (pc' := 20) dX10_met_19 rfl (by decide) ?_
      rcases h with ⟨N9, he10, h⟩ | ⟨z11, N12, he10, h⟩
      · refine e_r_callV (a := 1) (av := [.inl p3, .inl 0, .inl 1]) (st := []) mqYX10_needWithin ml_RX10_191 cl_10 rfl (Nat.le_of_ble_eq_true rfl) (by simp [e_cat]) rfl rfl rfl dX10_met_20 (pc' := 23) rfl he10 ⟨Nat.le_refl _, Nat.le_refl _⟩ hmo ?_
        refine e_r_lconst (pc' := 24) (z := 1) dX10_met_23 rfl rfl ?_
        refine e_r_lstore (pc' := 26) (loc' := [some (.inr (.inr 1)), some (.inl p1), some (.inl p2), some (.inl p3), some (.inr (.inl 1)), none, none, none, none, none, none, none, none]) dX10_met_24 rfl rfl rfl rfl ?_
        refine e_r_lconst (pc' := 27) (z := 1) dX10_met_26 rfl rfl ?_
        refine e_r_lstore (pc' := 29) (loc' := [some (.inr (.inr 1)), some (.inl p1), some (.inl p2), some (.inl p3), some (.inr (.inl 1)), none, some (.inr (.inl 1)), none, none, none, none, none, none]) dX10_met_27 rfl rfl rfl rfl ?_
        refine e_r_iconst (pc' := 30) dX10_met_29 rfl (by decide) ?_
        refine e_r_istore (pc' := 32) (loc' := [some (.inr (.inr 1)), some (.inl p1), some (.inl p2), some (.inl p3), some (.inr (.inl 1)), none, some (.inr (.inl 1)), none, some (.inl 0), none, none, none, none]) dX10_met_30 rfl rfl rfl rfl ?_
        exact h
      · exact e_r_callVx (a := 1) (av := [.inl p3, .inl 0, .inl 1]) (st := []) mqYX10_needWithin ml_RX10_191 cl_10 rfl (Nat.le_of_ble_eq_true rfl) (by simp [e_cat]) rfl rfl rfl dX10_met_20 rfl he10 ⟨Nat.le_refl _, Nat.le_succ _⟩ h
    · exact e_r_callVx (a := 1) (av := [.inl p2, .inl 0, .inl 16]) (st := []) mqYX10_needWithin ml_RX10_191 cl_10 rfl (Nat.le_of_ble_eq_true rfl) (by simp [e_cat]) rfl rfl rfl dX10_met_13 rfl he6 ⟨Nat.le_refl _, Nat.le_succ _⟩ h
  · exact e_r_callVx (a := 1) (av := [.inl p1, .inl 0, .inl 7]) (st := []) mqYX10_needWithin ml_RX10_191 cl_10 rfl (Nat.le_of_ble_eq_true rfl) (by simp [e_cat]) rfl rfl rfl dX10_met_5 rfl he2 ⟨Nat.le_refl _, Nat.le_succ _⟩ h
theorem wp_X10_met_32 {X : e_X} {d gn : Nat} {o : e_O} (M : e_M) (p1 p2 p3 v4 v6 v8 : Int) (h : ((p1 ≤ v8 → e_G X (d + 1) YX10_met 79 [some (.inr (.inr 1)), some (.inl p1), some (.inl p2), some (.inl p3), some (.inr (.inl v4)), none, some (.inr (.inl v6)), none, some (.inr (.inl (e_wl (v4 - v6)))), none, some (.inr (.inl v4)), none, some (.inl 0)] [] (557, gn, e_RF, M) o) ∧ (¬ (p1 ≤ v8) → e_G X (d + 1) YX10_met 32 [some (.inr (.inr 1)), some (.inl p1), some (.inl p2), some (.inl p3), some (.inr (.inl (e_wl (v4 * 256)))), none, some (.inr (.inl (e_wl (v6 * (e_w (256 - (e_w (p2 * p2)))))))), none, some (.inl (e_w (v8 + 1))), none, none, none, none] [] (557, gn, e_RF, M) o))) : e_G X (d + 1) YX10_met 32 [some (.inr (.inr 1)), some (.inl p1), some (.inl p2), some (.inl p3), some (.inr (.inl v4)), none, some (.inr (.inl v6)), none, some (.inl v8), none, none, none, none] [] (557, gn, e_RF, M) o := by
  refine e_r_iload (pc' := 34) dX10_met_32 rfl rfl ?_
  refine e_r_iload_n (pc' := 35) dX10_met_34 rfl rfl rfl ?_
  obtain ⟨ht1, hf2⟩ := h
  refine e_r_icmp_ge (tgt := 65) (pc' := 38) dX10_met_35 rfl rfl (fun c => ?_) (fun c => ?_)
  · have h := ht1 c
    refine e_r_lload (pc' := 67) dX10_met_65 rfl rfl ?_
    refine e_r_lload (pc' := 69) dX10_met_67 rfl rfl ?_
    refine e_r_lsub (pc' := 70) dX10_met_69 rfl ?_
    refine e_r_lstore (pc' := 72) (loc' := [some (.inr (.inr 1)), some (.inl p1), some (.inl p2), some (.inl p3), some (.inr (.inl v4)), none, some (.inr (.inl v6)), none, some (.inr (.inl (e_wl (v4 - v6)))), none, none, none, none]) dX10_met_70 rfl rfl rfl rfl ?_
    refine e_r_lload (pc' := 74) dX10_met_72 rfl rfl ?_
    refine e_r_lstore (pc' := 76) (loc' := [some (.inr (.inr 1)), some (.inl p1), some (.inl p2), some (.inl p3), some (.inr (.inl v4)), none, some (.inr (.inl v6)), none, some (.inr (.inl (e_wl (v4 - v6)))), none, some (.inr (.inl v4)), none, none]) dX10_met_74 rfl rfl rfl rfl ?_
    refine e_r_iconst (pc' := 77) dX10_met_76 rfl (by decide) ?_
    refine e_r_istore (pc' := 79) (loc' := [some (.inr (.inr 1)), some (.inl p1), some (.inl p2), some (.inl p3), some (.inr (.inl v4)), none, some (.inr (.inl v6)), none, some (.inr (.inl (e_wl (v4 - v6)))), none, some (.inr (.inl v4)), none, some (.inl 0)]) dX10_met_77 rfl rfl rfl rfl ?_
    exact h
  · have h := hf2 c
    refine e_r_lload (pc' := 40) dX10_met_38 rfl rfl ?_
    refine e_r_ldc2 (pc' := 43) (n := 256) cst_RX10_376 dX10_met_40 rfl (by decide) ?_
    refine e_r_lmul (pc' := 44) dX10_met_43 rfl ?_
    refine e_r_lstore (pc' := 46) (loc' := [some (.inr (.inr 1)), some (.inl p1), some (.inl p2), some (.inl p3), some (.inr (.inl (e_wl (v4 * 256)))), none, some (.inr (.inl v6)), none, some (.inl v8), none, none, none, none]) dX10_met_44 rfl rfl rfl rfl ?_
    refine e_r_lload (pc' := 48) dX10_met_46 rfl rfl ?_
    refine e_r_sipush (pc' := 51) dX10_met_48 rfl (by decide) ?_
    refine e_r_iload_n (pc' := 52) dX10_met_51 rfl rfl rfl ?_
    refine e_r_iload_n (pc' := 53) dX10_met_52 rfl rfl rfl ?_
    refine e_r_imul (pc' := 54) dX10_met_53 rfl ?_
    refine e_r_isub (pc' := 55) dX10_met_54 rfl ?_
    refine e_r_i2l (pc' := 56) dX10_met_55 rfl ?_
    refine e_r_lmul (pc' := 57) dX10_met_56 rfl ?_
    refine e_r_lstore (pc' := 59) (loc' := [some (.inr (.inr 1)), some (.inl p1), some (.inl p2), some (.inl p3), some (.inr (.inl (e_wl (v4 * 256)))), none, some (.inr (.inl (e_wl (v6 * (e_w (256 - (e_w (p2 * p2)))))))), none, some (.inl v8), none, none, none, none]) dX10_met_57 rfl rfl rfl rfl ?_
    refine e_r_iinc (pc' := 62) (loc' := [some (.inr (.inr 1)), some (.inl p1), some (.inl p2), some (.inl p3), some (.inr (.inl (e_wl (v4 * 256)))), none, some (.inr (.inl (e_wl (v6 * (e_w (256 - (e_w (p2 * p2)))))))), none, some (.inl (e_w (v8 + 1))), none, none, none, none]) dX10_met_59 rfl rfl rfl rfl rfl ?_
    refine e_r_goto (pc' := 32) dX10_met_62 rfl ?_
    exact h
theorem wp_X10_met_79 {X : e_X} {d gn : Nat} {o : e_O} (M : e_M) (p1 p2 p3 v4 v6 v8 v10 v12 : Int) (h : ((56 ≤ v12 → e_G X (d + 1) YX10_met 130 [some (.inr (.inr 1)), some (.inl p1), some (.inl p2), some (.inl p3), some (.inr (.inl v4)), none, some (.inr (.inl v6)), none, some (.inr (.inl v8)), none, some (.inr (.inl v10)), none, some (.inl v12)] [] (557, gn, e_RF, M) o) ∧ (¬ (56 ≤ v12) → ((¬ (e_cmp (e_wl (Int.tmod v10 2)) 0) = 0 → e_G X (d + 1) YX10_met 130 [some (.inr (.inr 1)), some (.inl p1), some (.inl p2), some (.inl p3), some (.inr (.inl v4)), none, some (.inr (.inl v6)), none, some (.inr (.inl v8)), none, some (.inr (.inl v10)), none, some (.inl v12)] [] (557, gn, e_RF, M) o) ∧ ((e_cmp (e_wl (Int.tmod v10 2)) 0) = 0 → ((¬ (e_cmp (e_wl (Int.tmod v8 2)) 0) = 0 → e_G X (d + 1) YX10_met 130 [some (.inr (.inr 1)), some (.inl p1), some (.inl p2), some (.inl p3), some (.inr (.inl v4)), none, some (.inr (.inl v6)), none, some (.inr (.inl v8)), none, some (.inr (.inl v10)), none, some (.inl v12)] [] (557, gn, e_RF, M) o) ∧ ((e_cmp (e_wl (Int.tmod v8 2)) 0) = 0 → e_G X (d + 1) YX10_met 79 [some (.inr (.inr 1)), some (.inl p1), some (.inl p2), some (.inl p3), some (.inr (.inl v4)), none, some (.inr (.inl v6)), none, some (.inr (.inl (e_wl (Int.tdiv v8 2)))), none, some (.inr (.inl (e_wl (Int.tdiv v10 2)))), none, some (.inl (e_w (v12 + 1)))] [] (557, gn, e_RF, M) o))))))) : e_G X (d + 1) YX10_met 79 [some (.inr (.inr 1)), some (.inl p1), some (.inl p2), some (.inl p3), some (.inr (.inl v4)), none, some (.inr (.inl v6)), none, some (.inr (.inl v8)), none, some (.inr (.inl v10)), none, some (.inl v12)] [] (557, gn, e_RF, M) o := by
  refine e_r_iload (pc' := 81) dX10_met_79 rfl rfl ?_
  refine e_r_bipush (pc' := 83) dX10_met_81 rfl (by decide) ?_
  obtain ⟨ht1, hf2⟩ := h
  refine e_r_icmp_ge (tgt := 130) (pc' := 86) dX10_met_83 rfl rfl (fun c => ?_) (fun c => ?_)
  · have h := ht1 c
    exact h
  · have h := hf2 c
    refine e_r_lload (pc' := 88) dX10_met_86 rfl rfl ?_
    refine e_r_ldc2 (pc' := 91) (n := 2) cst_RX10_378 dX10_met_88 rfl (by decide) ?_
    refine e_r_lrem (pc' := 92) (by decide) dX10_met_91 rfl ?_
    refine e_r_lconst (pc' := 93) (z := 0) dX10_met_92 rfl rfl ?_
    refine e_r_lcmp (pc' := 94) dX10_met_93 rfl ?_
    obtain ⟨ht3, hf4⟩ := h
    refine e_r_if_ne (tgt := 130) (pc' := 97) dX10_met_94 rfl rfl (fun c => ?_) (fun c => ?_)
    · have h := ht3 c
      exact h
    · have h := hf4 c
      refine e_r_lload (pc' := 99) dX10_met_97 rfl rfl ?_
      refine e_r_ldc2 (pc' := 102) (n := 2) cst_RX10_378 dX10_met_99 rfl (by decide) ?_
      refine e_r_lrem (pc' := 103) (by decide) dX10_met_102 rfl ?_
      refine e_r_lconst (pc' := 104) (z := 0) dX10_met_103 rfl rfl ?_
      refine e_r_lcmp (pc' := 105) dX10_met_104 rfl ?_
      obtain ⟨ht5, hf6⟩ := h
      refine e_r_if_ne (tgt := 130) (pc' := 108) dX10_met_105 rfl rfl (fun c => ?_) (fun c => ?_)
      · have h := ht5 c
        exact h
      · have h := hf6 c
        refine e_r_lload (pc' := 110) dX10_met_108 rfl rfl ?_
        refine e_r_ldc2 (pc' := 113) (n := 2) cst_RX10_378 dX10_met_110 rfl (by decide) ?_
        refine e_r_ldiv (pc' := 114) (by decide) dX10_met_113 rfl ?_
        refine e_r_lstore (pc' := 116) (loc' := [some (.inr (.inr 1)), some (.inl p1), some (.inl p2), some (.inl p3), some (.inr (.inl v4)), none, some (.inr (.inl v6)), none, some (.inr (.inl (e_wl (Int.tdiv v8 2)))), none, some (.inr (.inl v10)), none, some (.inl v12)]) dX10_met_114 rfl rfl rfl rfl ?_
        refine e_r_lload (pc' := 118) dX10_met_116 rfl rfl ?_
        refine e_r_ldc2 (pc' := 121) (n := 2) cst_RX10_378 dX10_met_118 rfl (by decide) ?_
        refine e_r_ldiv (pc' := 122) (by decide) dX10_met_121 rfl ?_
        refine e_r_lstore (pc' := 124) (loc' := [some (.inr (.inr 1)), some (.inl p1), some (.inl p2), some (.inl p3), some (.inr (.inl v4)), none, some (.inr (.inl v6)), none, some (.inr (.inl (e_wl (Int.tdiv v8 2)))), none, some (.inr (.inl (e_wl (Int.tdiv v10 2)))), none, some (.inl v12)]) dX10_met_122 rfl rfl rfl rfl ?_
        refine e_r_iinc (pc' := 127) (loc' := [some (.inr (.inr 1)), some (.inl p1), some (.inl p2), some (.inl p3), some (.inr (.inl v4)), none, some (.inr (.inl v6)), none, some (.inr (.inl (e_wl (Int.tdiv v8 2)))), none, some (.inr (.inl (e_wl (Int.tdiv v10 2)))), none, some (.inl (e_w (v12 + 1)))]) dX10_met_124 rfl rfl rfl rfl rfl ?_
        refine e_r_goto (pc' := 79) dX10_met_127 rfl ?_
        exact h
theorem wp_X10_met_130 {X : e_X} {d gn : Nat} {o : e_O} (M : e_M) (p1 p2 p3 v4 v6 v8 v10 v12 : Int) (h : ((¬ p3 = 0 → (o = (.inl (some (.inr (.inl v10))), (557, gn, e_RF, M)))) ∧ (p3 = 0 → (o = (.inl (some (.inr (.inl v8))), (557, gn, e_RF, M)))))) : e_G X (d + 1) YX10_met 130 [some (.inr (.inr 1)), some (.inl p1), some (.inl p2), some (.inl p3), some (.inr (.inl v4)), none, some (.inr (.inl v6)), none, some (.inr (.inl v8)), none, some (.inr (.inl v10)), none, some (.inl v12)] [] (557, gn, e_RF, M) o := by
  refine e_r_iload_n (pc' := 131) dX10_met_130 rfl rfl rfl ?_
  obtain ⟨ht1, hf2⟩ := h
  refine e_r_if_ne (tgt := 139) (pc' := 134) dX10_met_131 rfl rfl (fun c => ?_) (fun c => ?_)
  · have h := ht1 c
    refine e_r_lload (pc' := 141) dX10_met_139 rfl rfl ?_
    exact e_r_lret rfl dX10_met_141 h
  · have h := hf2 c
    refine e_r_lload (pc' := 136) dX10_met_134 rfl rfl ?_
    refine e_r_goto (pc' := 141) dX10_met_136 rfl ?_
    exact e_r_lret rfl dX10_met_141 h
theorem wp_X10_open_0 {X : e_X} {d gn : Nat} {o : e_O} (M : e_M) (p1 p2 p3 : Int) (hmo : e_mn (557, gn, e_RF, M) o.2) (h : ((∃ N1 : e_M, e_E X d YX10_needWithin [.inr (.inr 1), .inl p1, .inl 0, .inl 99] (557, gn, e_RF, M) (.inl none, (557, gn, e_RF, N1)) ∧ ((∃ N5 : e_M, e_E X d YX10_needWithin [.inr (.inr 1), .inl p2, .inl 0, .inl 99] (557, gn, e_RF, N1) (.inl none, (557, gn, e_RF, N5)) ∧ ((∃ N9 : e_M, e_E X d YX10_needWithin [.inr (.inr 1), .inl p3, .inl 0, .inl 2] (557, gn, e_RF, N5) (.inl none, (557, gn, e_RF, N9)) ∧ e_G X (d + 1) YX10_open 35 [some (.inr (.inr 1)), some (.inl p1), some (.inl p2), some (.inl p3), some (.inl 0), some (.inl (-1)), some (.inl 0), some (.inl 0), none, none, none] [] (557, gn, e_RF, N9) o) ∨ (∃ (z11 : Nat) (N12 : e_M), e_E X d YX10_needWithin [.inr (.inr 1), .inl p3, .inl 0, .inl 2] (557, gn, e_RF, N5) (.inr z11, (557, gn + 1, e_RF, N12)) ∧ o = (.inr z11, (557, gn + 1, e_RF, N12))))) ∨ (∃ (z7 : Nat) (N8 : e_M), e_E X d YX10_needWithin [.inr (.inr 1), .inl p2, .inl 0, .inl 99] (557, gn, e_RF, N1) (.inr z7, (557, gn + 1, e_RF, N8)) ∧ o = (.inr z7, (557, gn + 1, e_RF, N8))))) ∨ (∃ (z3 : Nat) (N4 : e_M), e_E X d YX10_needWithin [.inr (.inr 1), .inl p1, .inl 0, .inl 99] (557, gn, e_RF, M) (.inr z3, (557, gn + 1, e_RF, N4)) ∧ o = (.inr z3, (557, gn + 1, e_RF, N4))))) : e_G X (d + 1) YX10_open 0 [some (.inr (.inr 1)), some (.inl p1), some (.inl p2), some (.inl p3), none, none, none, none, none, none, none] [] (557, gn, e_RF, M) o := by
  refine e_r_aload_n (pc' := 1) (by decide) dX10_open_0 rfl rfl rfl ?_
  refine e_r_iload_n (pc' := 2) dX10_open_1 rfl rfl rfl ?_
  refine e_r_iconst (pc' := 3) dX10_open_2 rfl (by decide) ?_
  refine e_r_bipush (pc' := 5) dX10_open_3 rfl (by decide) ?_
  rcases h with ⟨N1, he2, h⟩ | ⟨z3, N4, he2, h⟩
  · refine e_r_callV (a := 1) (av := [.inl p1, .inl 0, .inl 99]) (st := []) mqYX10_needWithin ml_RX10_191 cl_10 rfl (Nat.le_of_ble_eq_true rfl) (by simp [e_cat]) rfl rfl rfl dX10_open_5 (pc' := 8) rfl he2 ⟨Nat.le_refl _, Nat.le_refl _⟩ hmo ?_
    refine e_r_aload_n (pc' := 9) (by decide) dX10_open_8 rfl rfl rfl ?_
    refine e_r_iload_n (pc' := 10) dX10_open_9 rfl rfl rfl ?_
    refine e_r_iconst (pc' := 11) dX10_open_10 rfl (by decide) ?_
    refine e_r_bipush (pc' := 13) dX10_open_11 rfl (by decide) ?_
    rcases h with ⟨N5, he6, h⟩ | ⟨z7, N8, he6, h⟩
    · refine e_r_callV (a := 1) (av := [.inl p2, .inl 0, .inl 99]) (st := []) mqYX10_needWithin ml_RX10_191 cl_10 rfl (Nat.le_of_ble_eq_true rfl) (by simp [e_cat]) rfl rfl rfl dX10_open_13 (pc' := 16) rfl he6 ⟨Nat.le_refl _, Nat.le_refl _⟩ hmo ?_
      refine e_r_aload_n (pc' := 17) (by decide) dX10_open_16 rfl rfl rfl ?_
      refine e_r_iload_n (pc' := 18) dX10_open_17 rfl rfl rfl ?_
      refine e_r_iconst (pc' := 19) dX10_open_18 rfl (by decide) ?_
      refine e_r_iconst (pc' := 20) dX10_open_19 rfl (by decide) ?_
      rcases h with ⟨N9, he10, h⟩ | ⟨z11, N12, he10, h⟩
      · refine e_r_callV (a := 1) (av := [.inl p3, .inl 0, .inl 2]) (st := []) mqYX10_needWithin ml_RX10_191 cl_10 rfl (Nat.le_of_ble_eq_true rfl) (by simp [e_cat]) rfl rfl rfl dX10_open_20 (pc' := 23) rfl he10 ⟨Nat.le_refl _, Nat.le_refl _⟩ hmo ?_
        refine e_r_iconst (pc' := 24) dX10_open_23 rfl (by decide) ?_
        refine e_r_istore (pc' := 26) (loc' := [some (.inr (.inr 1)), some (.inl p1), some (.inl p2), some (.inl p3), some (.inl 0), none, none, none, none, none, none]) dX10_open_24 rfl rfl rfl rfl ?_
        refine e_r_iconst (pc' := 27) dX10_open_26 rfl (by decide) ?_
        refine e_r_istore (pc' := 29) (loc' := [some (.inr (.inr 1)), some (.inl p1), some (.inl p2), some (.inl p3), some (.inl 0), some (.inl (-1)), none, none, none, none, none]) dX10_open_27 rfl rfl rfl rfl ?_
        refine e_r_iconst (pc' := 30) dX10_open_29 rfl (by decide) ?_
        refine e_r_istore (pc' := 32) (loc' := [some (.inr (.inr 1)), some (.inl p1), some (.inl p2), some (.inl p3), some (.inl 0), some (.inl (-1)), some (.inl 0), none, none, none, none]) dX10_open_30 rfl rfl rfl rfl ?_
        refine e_r_iconst (pc' := 33) dX10_open_32 rfl (by decide) ?_
        refine e_r_istore (pc' := 35) (loc' := [some (.inr (.inr 1)), some (.inl p1), some (.inl p2), some (.inl p3), some (.inl 0), some (.inl (-1)), some (.inl 0), some (.inl 0), none, none, none]) dX10_open_33 rfl rfl rfl rfl ?_
        exact h
      · exact e_r_callVx (a := 1) (av := [.inl p3, .inl 0, .inl 2]) (st := []) mqYX10_needWithin ml_RX10_191 cl_10 rfl (Nat.le_of_ble_eq_true rfl) (by simp [e_cat]) rfl rfl rfl dX10_open_20 rfl he10 ⟨Nat.le_refl _, Nat.le_succ _⟩ h
    · exact e_r_callVx (a := 1) (av := [.inl p2, .inl 0, .inl 99]) (st := []) mqYX10_needWithin ml_RX10_191 cl_10 rfl (Nat.le_of_ble_eq_true rfl) (by simp [e_cat]) rfl rfl rfl dX10_open_13 rfl he6 ⟨Nat.le_refl _, Nat.le_succ _⟩ h
  · exact e_r_callVx (a := 1) (av := [.inl p1, .inl 0, .inl 99]) (st := []) mqYX10_needWithin ml_RX10_191 cl_10 rfl (Nat.le_of_ble_eq_true rfl) (by simp [e_cat]) rfl rfl rfl dX10_open_5 rfl he2 ⟨Nat.le_refl _, Nat.le_succ _⟩ h
theorem wp_X10_open_35 {X : e_X} {d gn : Nat} {o : e_O} (M : e_M) (p1 p2 p3 v4 v5 v6 v7 : Int) (h : ((1 < v7 → ((p3 = 0 → (o = (.inl (some (.inl v4)), (557, gn, e_RF, M)))) ∧ (p3 = 1 → (o = (.inl (some (.inl v5)), (557, gn, e_RF, M)))) ∧ (¬ p3 = 0 ∧ ¬ p3 = 1 → (o = (.inl (some (.inl v6)), (557, gn, e_RF, M)))))) ∧ (¬ (1 < v7) → e_G X (d + 1) YX10_open 44 [some (.inr (.inr 1)), some (.inl p1), some (.inl p2), some (.inl p3), some (.inl v4), some (.inl v5), some (.inl v6), some (.inl v7), some (.inl 0), none, none] [] (557, gn, e_RF, M) o))) : e_G X (d + 1) YX10_open 35 [some (.inr (.inr 1)), some (.inl p1), some (.inl p2), some (.inl p3), some (.inl v4), some (.inl v5), some (.inl v6), some (.inl v7), none, none, none] [] (557, gn, e_RF, M) o := by
  refine e_r_iload (pc' := 37) dX10_open_35 rfl rfl ?_
  refine e_r_iconst (pc' := 38) dX10_open_37 rfl (by decide) ?_
  obtain ⟨ht1, hf2⟩ := h
  refine e_r_icmp_gt (tgt := 141) (pc' := 41) dX10_open_38 rfl rfl (fun c => ?_) (fun c => ?_)
  · have h := ht1 c
    refine e_r_iload_n (pc' := 142) dX10_open_141 rfl rfl rfl ?_
    obtain ⟨hk3, hk4, hd5⟩ := h
    by_cases c6 : p3 = 0
    · have h := hk3 c6
      refine e_r_lookup (pc' := 168) dX10_open_142 rfl 26 (by rw [c6]; rfl) rfl ?_
      refine e_r_iload (pc' := 170) dX10_open_168 rfl rfl ?_
      exact e_r_iret (ty := .int) rfl (e_nI _) dX10_open_170 h
    by_cases c7 : p3 = 1
    · have h := hk4 c7
      refine e_r_lookup (pc' := 171) dX10_open_142 rfl 29 (by rw [c7]; rfl) rfl ?_
      refine e_r_iload (pc' := 173) dX10_open_171 rfl rfl ?_
      exact e_r_iret (ty := .int) rfl (e_nI _) dX10_open_173 h
    have h := hd5 ⟨c6, c7⟩
    refine e_r_lookup (pc' := 174) dX10_open_142 rfl 32 (by simp [Op.lookupswitch.offset, show ¬ (0 : Int) = p3 from fun z => c6 z.symm, show ¬ (1 : Int) = p3 from fun z => c7 z.symm]) rfl ?_
    refine e_r_iload (pc' := 176) dX10_open_174 rfl rfl ?_
    exact e_r_iret (ty := .int) rfl (e_nI _) dX10_open_176 h
  · have h := hf2 c
    refine e_r_iconst (pc' := 42) dX10_open_41 rfl (by decide) ?_
    refine e_r_istore (pc' := 44) (loc' := [some (.inr (.inr 1)), some (.inl p1), some (.inl p2), some (.inl p3), some (.inl v4), some (.inl v5), some (.inl v6), some (.inl v7), some (.inl 0), none, none]) dX10_open_42 rfl rfl rfl rfl ?_
    exact h
theorem wp_X10_open_44 {X : e_X} {d gn : Nat} {o : e_O} (M : e_M) (p1 p2 p3 v4 v5 v6 v7 v8 : Int) (hmo : e_mn (557, gn, e_RF, M) o.2) (h : ((1 < v8 → e_G X (d + 1) YX10_open 35 [some (.inr (.inr 1)), some (.inl p1), some (.inl p2), some (.inl p3), some (.inl v4), some (.inl v5), some (.inl v6), some (.inl (e_w (v7 + 1))), none, none, none] [] (557, gn, e_RF, M) o) ∧ (¬ (1 < v8) → (∃ (r4 : Int) (N3 : e_M), e_E X d YX10_shopHas [.inl v7, .inl v8, .inl p1, .inl p2] (557, gn, e_RF, M) (.inl (some (.inl r4)), (557, gn, e_RF, N3)) ∧ (∃ (r7 : Int) (N6 : e_M), e_E X d YX10_shopHas [.inl v8, .inl v7, .inl p1, .inl p2] (557, gn, e_RF, N3) (.inl (some (.inl r7)), (557, gn, e_RF, N6)) ∧ (∃ (r10 : Int) (N9 : e_M), e_E X d YX10_shopHas [.inl (e_w (1 - v7)), .inl v8, .inl p1, .inl p2] (557, gn, e_RF, N6) (.inl (some (.inl r10)), (557, gn, e_RF, N9)) ∧ ((r4 < r10 → e_G X (d + 1) YX10_open 44 [some (.inr (.inr 1)), some (.inl p1), some (.inl p2), some (.inl p3), some (.inl v4), some (.inl v5), some (.inl v6), some (.inl v7), some (.inl (e_w (v8 + 1))), none, none] [] (557, gn, e_RF, N9) o) ∧ (¬ (r4 < r10) → (∃ (r15 : Int) (N14 : e_M), e_E X d YX10_shopHas [.inl (e_w (1 - v8)), .inl v7, .inl p1, .inl p2] (557, gn, e_RF, N9) (.inl (some (.inl r15)), (557, gn, e_RF, N14)) ∧ ((r7 < r15 → e_G X (d + 1) YX10_open 44 [some (.inr (.inr 1)), some (.inl p1), some (.inl p2), some (.inl p3), some (.inl v4), some (.inl v5), some (.inl v6), some (.inl v7), some (.inl (e_w (v8 + 1))), none, none] [] (557, gn, e_RF, N14) o) ∧ (¬ (r7 < r15) → ((¬ v4 = 0 → e_G X (d + 1) YX10_open 44 [some (.inr (.inr 1)), some (.inl p1), some (.inl p2), some (.inl p3), some (.inl (e_w (v4 + 1))), some (.inl v5), some (.inl v6), some (.inl v7), some (.inl (e_w (v8 + 1))), none, none] [] (557, gn, e_RF, N14) o) ∧ (v4 = 0 → e_G X (d + 1) YX10_open 44 [some (.inr (.inr 1)), some (.inl p1), some (.inl p2), some (.inl p3), some (.inl (e_w (v4 + 1))), some (.inl (e_w ((e_w (10 * v7)) + v8))), some (.inl (e_w (r4 + r7))), some (.inl v7), some (.inl (e_w (v8 + 1))), none, none] [] (557, gn, e_RF, N14) o))))))))))))) : e_G X (d + 1) YX10_open 44 [some (.inr (.inr 1)), some (.inl p1), some (.inl p2), some (.inl p3), some (.inl v4), some (.inl v5), some (.inl v6), some (.inl v7), some (.inl v8), none, none] [] (557, gn, e_RF, M) o := by
  refine e_r_iload (pc' := 46) dX10_open_44 rfl rfl ?_
  refine e_r_iconst (pc' := 47) dX10_open_46 rfl (by decide) ?_
  obtain ⟨ht1, hf2⟩ := h
  refine e_r_icmp_gt (tgt := 135) (pc' := 50) dX10_open_47 rfl rfl (fun c => ?_) (fun c => ?_)
  · have h := ht1 c
    refine e_r_iinc (pc' := 138) (loc' := [some (.inr (.inr 1)), some (.inl p1), some (.inl p2), some (.inl p3), some (.inl v4), some (.inl v5), some (.inl v6), some (.inl (e_w (v7 + 1))), some (.inl v8), none, none]) dX10_open_135 rfl rfl rfl rfl rfl ?_
    refine e_r_goto (pc' := 35) dX10_open_138 rfl ?_
    exact e_forget (m := [true, true, true, true, true, true, true, true, false, false, false]) h rfl
  · have h := hf2 c
    refine e_r_iload (pc' := 52) dX10_open_50 rfl rfl ?_
    refine e_r_iload (pc' := 54) dX10_open_52 rfl rfl ?_
    refine e_r_iload_n (pc' := 55) dX10_open_54 rfl rfl rfl ?_
    refine e_r_iload_n (pc' := 56) dX10_open_55 rfl rfl rfl ?_
    obtain ⟨r4, N3, he5, h⟩ := h
    refine e_r_callS (av := [.inl v7, .inl v8, .inl p1, .inl p2]) (st := []) mqYX10_shopHas ml_RX10_380 (by simp [e_cat]) rfl rfl rfl dX10_open_56 (pc' := 59) rfl he5 ⟨Nat.le_refl _, Nat.le_refl _⟩ hmo ?_
    refine e_r_istore (pc' := 61) (loc' := [some (.inr (.inr 1)), some (.inl p1), some (.inl p2), some (.inl p3), some (.inl v4), some (.inl v5), some (.inl v6), some (.inl v7), some (.inl v8), some (.inl r4), none]) dX10_open_59 rfl rfl rfl rfl ?_
    refine e_r_iload (pc' := 63) dX10_open_61 rfl rfl ?_
    refine e_r_iload (pc' := 65) dX10_open_63 rfl rfl ?_
    refine e_r_iload_n (pc' := 66) dX10_open_65 rfl rfl rfl ?_
    refine e_r_iload_n (pc' := 67) dX10_open_66 rfl rfl rfl ?_
    obtain ⟨r7, N6, he8, h⟩ := h
    refine e_r_callS (av := [.inl v8, .inl v7, .inl p1, .inl p2]) (st := []) mqYX10_shopHas ml_RX10_380 (by simp [e_cat]) rfl rfl rfl dX10_open_67 (pc' := 70) rfl he8 ⟨Nat.le_refl _, Nat.le_refl _⟩ hmo ?_
    refine e_r_istore (pc' := 72) (loc' := [some (.inr (.inr 1)), some (.inl p1), some (.inl p2), some (.inl p3), some (.inl v4), some (.inl v5), some (.inl v6), some (.inl v7), some (.inl v8), some (.inl r4), some (.inl r7)]) dX10_open_70 rfl rfl rfl rfl ?_
    refine e_r_iconst (pc' := 73) dX10_open_72 rfl (by decide) ?_
    refine e_r_iload (pc' := 75) dX10_open_73 rfl rfl ?_
    refine e_r_isub (pc' := 76) dX10_open_75 rfl ?_
    refine e_r_iload (pc' := 78) dX10_open_76 rfl rfl ?_
    refine e_r_iload_n (pc' := 79) dX10_open_78 rfl rfl rfl ?_
    refine e_r_iload_n (pc' := 80) dX10_open_79 rfl rfl rfl ?_
    obtain ⟨r10, N9, he11, h⟩ := h
    refine e_r_callS (av := [.inl (e_w (1 - v7)), .inl v8, .inl p1, .inl p2]) (st := []) mqYX10_shopHas ml_RX10_380 (by simp [e_cat]) rfl rfl rfl dX10_open_80 (pc' := 83) rfl he11 ⟨Nat.le_refl _, Nat.le_refl _⟩ hmo ?_
    refine e_r_iload (pc' := 85) dX10_open_83 rfl rfl ?_
    obtain ⟨ht12, hf13⟩ := h
    refine e_r_icmp_gt (tgt := 129) (pc' := 88) dX10_open_85 rfl rfl (fun c => ?_) (fun c => ?_)
    · have h := ht12 c
      refine e_r_iinc (pc' := 132) (loc' := [some (.inr (.inr 1)), some (.inl p1), some (.inl p2), some (.inl p3), some (.inl v4), some (.inl v5), some (.inl v6), some (.inl v7), some (.inl (e_w (v8 + 1))), some (.inl r4), some (.inl r7)]) dX10_open_129 rfl rfl rfl rfl rfl ?_
      refine e_r_goto (pc' := 44) dX10_open_132 rfl ?_
      exact e_forget (m := [true, true, true, true, true, true, true, true, true, false, false]) h rfl
    · have h := hf13 c
      refine e_r_iconst (pc' := 89) dX10_open_88 rfl (by decide) ?_
      refine e_r_iload (pc' := 91) dX10_open_89 rfl rfl ?_
      refine e_r_isub (pc' := 92) dX10_open_91 rfl ?_
      refine e_r_iload (pc' := 94) dX10_open_92 rfl rfl ?_
      refine e_r_iload_n (pc' := 95) dX10_open_94 rfl rfl rfl ?_
      refine e_r_iload_n (pc' := 96) dX10_open_95 rfl rfl rfl ?_
      obtain ⟨r15, N14, he16, h⟩ := h
      refine e_r_callS (av := [.inl (e_w (1 - v8)), .inl v7, .inl p1, .inl p2]) (st := []) mqYX10_shopHas ml_RX10_380 (by simp [e_cat]) rfl rfl rfl dX10_open_96 (pc' := 99) rfl he16 ⟨Nat.le_refl _, Nat.le_refl _⟩ hmo ?_
      refine e_r_iload (pc' := 101) dX10_open_99 rfl rfl ?_
      obtain ⟨ht17, hf18⟩ := h
      refine e_r_icmp_gt (tgt := 129) (pc' := 104) dX10_open_101 rfl rfl (fun c => ?_) (fun c => ?_)
      · have h := ht17 c
        refine e_r_iinc (pc' := 132) (loc' := [some (.inr (.inr 1)), some (.inl p1), some (.inl p2), some (.inl p3), some (.inl v4), some (.inl v5), some (.inl v6), some (.inl v7), some (.inl (e_w (v8 + 1))), some (.inl r4), some (.inl r7)]) dX10_open_129 rfl rfl rfl rfl rfl ?_
        refine e_r_goto (pc' := 44) dX10_open_132 rfl ?_
        exact e_forget (m := [true, true, true, true, true, true, true, true, true, false, false]) h rfl
      · have h := hf18 c
        refine e_r_iload (pc' := 106) dX10_open_104 rfl rfl ?_
        obtain ⟨ht19, hf20⟩ := h
        refine e_r_if_ne (tgt := 126) (pc' := 109) dX10_open_106 rfl rfl (fun c => ?_) (fun c => ?_)
        · have h := ht19 c
          refine e_r_iinc (pc' := 129) (loc' := [some (.inr (.inr 1)), some (.inl p1), some (.inl p2), some (.inl p3), some (.inl (e_w (v4 + 1))), some (.inl v5), some (.inl v6), some (.inl v7), some (.inl v8), some (.inl r4), some (.inl r7)]) dX10_open_126 rfl rfl rfl rfl rfl ?_
          refine e_r_iinc (pc' := 132) (loc' := [some (.inr (.inr 1)), some (.inl p1), some (.inl p2), some (.inl p3), some (.inl (e_w (v4 + 1))), some (.inl v5), some (.inl v6), some (.inl v7), some (.inl (e_w (v8 + 1))), some (.inl r4), some (.inl r7)]) dX10_open_129 rfl rfl rfl rfl rfl ?_
          refine e_r_goto (pc' := 44) dX10_open_132 rfl ?_
          exact e_forget (m := [true, true, true, true, true, true, true, true, true, false, false]) h rfl
        · have h := hf20 c
          refine e_r_bipush (pc' := 111) dX10_open_109 rfl (by decide) ?_
          refine e_r_iload (pc' := 113) dX10_open_111 rfl rfl ?_
          refine e_r_imul (pc' := 114) dX10_open_113 rfl ?_
          refine e_r_iload (pc' := 116) dX10_open_114 rfl rfl ?_
          refine e_r_iadd (pc' := 117) dX10_open_116 rfl ?_
          refine e_r_istore (pc' := 119) (loc' := [some (.inr (.inr 1)), some (.inl p1), some (.inl p2), some (.inl p3), some (.inl v4), some (.inl (e_w ((e_w (10 * v7)) + v8))), some (.inl v6), some (.inl v7), some (.inl v8), some (.inl r4), some (.inl r7)]) dX10_open_117 rfl rfl rfl rfl ?_
          refine e_r_iload (pc' := 121) dX10_open_119 rfl rfl ?_
          refine e_r_iload (pc' := 123) dX10_open_121 rfl rfl ?_
          refine e_r_iadd (pc' := 124) dX10_open_123 rfl ?_
          refine e_r_istore (pc' := 126) (loc' := [some (.inr (.inr 1)), some (.inl p1), some (.inl p2), some (.inl p3), some (.inl v4), some (.inl (e_w ((e_w (10 * v7)) + v8))), some (.inl (e_w (r4 + r7))), some (.inl v7), some (.inl v8), some (.inl r4), some (.inl r7)]) dX10_open_124 rfl rfl rfl rfl ?_
          refine e_r_iinc (pc' := 129) (loc' := [some (.inr (.inr 1)), some (.inl p1), some (.inl p2), some (.inl p3), some (.inl (e_w (v4 + 1))), some (.inl (e_w ((e_w (10 * v7)) + v8))), some (.inl (e_w (r4 + r7))), some (.inl v7), some (.inl v8), some (.inl r4), some (.inl r7)]) dX10_open_126 rfl rfl rfl rfl rfl ?_
          refine e_r_iinc (pc' := 132) (loc' := [some (.inr (.inr 1)), some (.inl p1), some (.inl p2), some (.inl p3), some (.inl (e_w (v4 + 1))), some (.inl (e_w ((e_w (10 * v7)) + v8))), some (.inl (e_w (r4 + r7))), some (.inl v7), some (.inl (e_w (v8 + 1))), some (.inl r4), some (.inl r7)]) dX10_open_129 rfl rfl rfl rfl rfl ?_
          refine e_r_goto (pc' := 44) dX10_open_132 rfl ?_
          exact e_forget (m := [true, true, true, true, true, true, true, true, true, false, false]) h rfl
theorem wp_X10_share_0 {X : e_X} {d gn : Nat} {o : e_O} (M : e_M) (p1 p2 p3 : Int) (hmo : e_mn (557, gn, e_RF, M) o.2) (h : ((∃ N1 : e_M, e_E X d YX10_needPerson [.inr (.inr 1), .inl p1] (557, gn, e_RF, M) (.inl none, (557, gn, e_RF, N1)) ∧ (∃ (r6 : Int) (N5 : e_M), e_E X d YX10_bitsBelow [.inl (N1 4 0)] (557, gn, e_RF, N1) (.inl (some (.inl r6)), (557, gn, e_RF, N5)) ∧ ((∃ N8 : e_M, e_E X d YX10_needWithin [.inr (.inr 1), .inl p2, .inl 0, .inl r6] (557, gn, e_RF, N5) (.inl none, (557, gn, e_RF, N8)) ∧ ((∃ N12 : e_M, e_E X d YX10_needWithin [.inr (.inr 1), .inl p3, .inl 0, .inl 9999] (557, gn, e_RF, N8) (.inl none, (557, gn, e_RF, N12)) ∧ ((¬ (e_and (e_shr p2 p1) 1) = 0 → (∃ (r19 : Int) (N18 : e_M), e_E X d YX3_mostDays [.inr (.inr 36)] (557, gn, e_RF, N12) (.inl (some (.inl r19)), (557, gn, e_RF, N18)) ∧ e_G X (d + 1) YX10_share 55 [some (.inr (.inr 1)), some (.inl p1), some (.inl p2), some (.inl p3), some (.inl 0), some (.inl r19), some (.inl 0), none] [] (557, gn, e_RF, N18) o)) ∧ ((e_and (e_shr p2 p1) 1) = 0 → (o = (.inl (some (.inl 0)), (557, gn, e_RF, N12)))))) ∨ (∃ (z14 : Nat) (N15 : e_M), e_E X d YX10_needWithin [.inr (.inr 1), .inl p3, .inl 0, .inl 9999] (557, gn, e_RF, N8) (.inr z14, (557, gn + 1, e_RF, N15)) ∧ o = (.inr z14, (557, gn + 1, e_RF, N15))))) ∨ (∃ (z10 : Nat) (N11 : e_M), e_E X d YX10_needWithin [.inr (.inr 1), .inl p2, .inl 0, .inl r6] (557, gn, e_RF, N5) (.inr z10, (557, gn + 1, e_RF, N11)) ∧ o = (.inr z10, (557, gn + 1, e_RF, N11)))))) ∨ (∃ (z3 : Nat) (N4 : e_M), e_E X d YX10_needPerson [.inr (.inr 1), .inl p1] (557, gn, e_RF, M) (.inr z3, (557, gn + 1, e_RF, N4)) ∧ o = (.inr z3, (557, gn + 1, e_RF, N4))))) : e_G X (d + 1) YX10_share 0 [some (.inr (.inr 1)), some (.inl p1), some (.inl p2), some (.inl p3), none, none, none, none] [] (557, gn, e_RF, M) o := by
  refine e_r_aload_n (pc' := 1) (by decide) dX10_share_0 rfl rfl rfl ?_
  refine e_r_iload_n (pc' := 2) dX10_share_1 rfl rfl rfl ?_
  rcases h with ⟨N1, he2, h⟩ | ⟨z3, N4, he2, h⟩
  · refine e_r_callV (a := 1) (av := [.inl p1]) (st := []) mqYX10_needPerson ml_RX10_222 cl_10 rfl (Nat.le_of_ble_eq_true rfl) (by simp [e_cat]) rfl rfl rfl dX10_share_2 (pc' := 5) rfl he2 ⟨Nat.le_refl _, Nat.le_refl _⟩ hmo ?_
    refine e_r_aload_n (pc' := 6) (by decide) dX10_share_5 rfl rfl rfl ?_
    refine e_r_iload_n (pc' := 7) dX10_share_6 rfl rfl rfl ?_
    refine e_r_iconst (pc' := 8) dX10_share_7 rfl (by decide) ?_
    refine e_r_aload_n (pc' := 9) (by decide) dX10_share_8 rfl rfl rfl ?_
    refine e_r_getr (k := 1) (q := 4) (pc' := 12) cl_10 rfl (Nat.le_of_ble_eq_true rfl) rfl rfl fl_RX10_19 rfl (Nat.le_of_ble_eq_true rfl) dX10_share_9 rfl ?_
    refine e_r_geti (k := 0) (pc' := 15) cl_8 rfl (Nat.le_of_ble_eq_true rfl) rfl rfl fl_RX10_155 dX10_share_12 rfl ?_
    obtain ⟨r6, N5, he7, h⟩ := h
    refine e_r_callS (av := [.inl (N1 4 0)]) (st := [.inl 0, .inl p2, .inr (.inr 1)]) mqYX10_bitsBelow ml_RX10_330 (by simp [e_cat]) rfl rfl rfl dX10_share_15 (pc' := 18) rfl he7 ⟨Nat.le_refl _, Nat.le_refl _⟩ hmo ?_
    rcases h with ⟨N8, he9, h⟩ | ⟨z10, N11, he9, h⟩
    · refine e_r_callV (a := 1) (av := [.inl p2, .inl 0, .inl r6]) (st := []) mqYX10_needWithin ml_RX10_191 cl_10 rfl (Nat.le_of_ble_eq_true rfl) (by simp [e_cat]) rfl rfl rfl dX10_share_18 (pc' := 21) rfl he9 ⟨Nat.le_refl _, Nat.le_refl _⟩ hmo ?_
      refine e_r_aload_n (pc' := 22) (by decide) dX10_share_21 rfl rfl rfl ?_
      refine e_r_iload_n (pc' := 23) dX10_share_22 rfl rfl rfl ?_
      refine e_r_iconst (pc' := 24) dX10_share_23 rfl (by decide) ?_
      refine e_r_sipush (pc' := 27) dX10_share_24 rfl (by decide) ?_
      rcases h with ⟨N12, he13, h⟩ | ⟨z14, N15, he13, h⟩
      · refine e_r_callV (a := 1) (av := [.inl p3, .inl 0, .inl 9999]) (st := []) mqYX10_needWithin ml_RX10_191 cl_10 rfl (Nat.le_of_ble_eq_true rfl) (by simp [e_cat]) rfl rfl rfl dX10_share_27 (pc' := 30) rfl he13 ⟨Nat.le_refl _, Nat.le_refl _⟩ hmo ?_
        refine e_r_iload_n (pc' := 31) dX10_share_30 rfl rfl rfl ?_
        refine e_r_iload_n (pc' := 32) dX10_share_31 rfl rfl rfl ?_
        refine e_r_ishr (pc' := 33) dX10_share_32 rfl ?_
        refine e_r_iconst (pc' := 34) dX10_share_33 rfl (by decide) ?_
        refine e_r_iand (pc' := 35) dX10_share_34 rfl ?_
        obtain ⟨ht16, hf17⟩ := h
        refine e_r_if_ne (tgt := 40) (pc' := 38) dX10_share_35 rfl rfl (fun c => ?_) (fun c => ?_)
        · have h := ht16 c
          refine e_r_iconst (pc' := 41) dX10_share_40 rfl (by decide) ?_
          refine e_r_istore (pc' := 43) (loc' := [some (.inr (.inr 1)), some (.inl p1), some (.inl p2), some (.inl p3), some (.inl 0), none, none, none]) dX10_share_41 rfl rfl rfl rfl ?_
          refine e_r_aload_n (pc' := 44) (by decide) dX10_share_43 rfl rfl rfl ?_
          refine e_r_getr (k := 8) (q := 36) (pc' := 47) cl_10 rfl (Nat.le_of_ble_eq_true rfl) rfl rfl fl_RX10_58 rfl (Nat.le_of_ble_eq_true rfl) dX10_share_44 rfl ?_
          obtain ⟨r19, N18, he20, h⟩ := h
          refine e_r_callV (a := 36) (av := []) (st := []) mqYX3_mostDays ml_RX10_384 cl_3 rfl (Nat.le_of_ble_eq_true rfl) (by simp [e_cat]) rfl rfl rfl dX10_share_47 (pc' := 50) rfl he20 ⟨Nat.le_refl _, Nat.le_refl _⟩ hmo ?_
          refine e_r_istore (pc' := 52) (loc' := [some (.inr (.inr 1)), some (.inl p1), some (.inl p2), some (.inl p3), some (.inl 0), some (.inl r19), none, none]) dX10_share_50 rfl rfl rfl rfl ?_
          refine e_r_iconst (pc' := 53) dX10_share_52 rfl (by decide) ?_
          refine e_r_istore (pc' := 55) (loc' := [some (.inr (.inr 1)), some (.inl p1), some (.inl p2), some (.inl p3), some (.inl 0), some (.inl r19), some (.inl 0), none]) dX10_share_53 rfl rfl rfl rfl ?_
          exact h
        · have h := hf17 c
          refine e_r_iconst (pc' := 39) dX10_share_38 rfl (by decide) ?_
          exact e_r_iret (ty := .int) rfl (e_nI _) dX10_share_39 h
      · exact e_r_callVx (a := 1) (av := [.inl p3, .inl 0, .inl 9999]) (st := []) mqYX10_needWithin ml_RX10_191 cl_10 rfl (Nat.le_of_ble_eq_true rfl) (by simp [e_cat]) rfl rfl rfl dX10_share_27 rfl he13 ⟨Nat.le_refl _, Nat.le_succ _⟩ h
    · exact e_r_callVx (a := 1) (av := [.inl p2, .inl 0, .inl r6]) (st := []) mqYX10_needWithin ml_RX10_191 cl_10 rfl (Nat.le_of_ble_eq_true rfl) (by simp [e_cat]) rfl rfl rfl dX10_share_18 rfl he9 ⟨Nat.le_refl _, Nat.le_succ _⟩ h
  · exact e_r_callVx (a := 1) (av := [.inl p1]) (st := []) mqYX10_needPerson ml_RX10_222 cl_10 rfl (Nat.le_of_ble_eq_true rfl) (by simp [e_cat]) rfl rfl rfl dX10_share_2 rfl he2 ⟨Nat.le_refl _, Nat.le_succ _⟩ h
theorem wp_X10_share_55 {X : e_X} {d gn : Nat} {o : e_O} (M : e_M) (p1 p2 p3 v4 v5 v6 : Int) (hmo : e_mn (557, gn, e_RF, M) o.2) (h : ((32 ≤ v6 → e_G X (d + 1) YX10_share 113 [some (.inr (.inr 1)), some (.inl p1), some (.inl p2), some (.inl p3), some (.inl v4), some (.inl v5), some (.inl v6), none] [] (557, gn, e_RF, M) o) ∧ (¬ (32 ≤ v6) → ((v5 ≤ v4 → e_G X (d + 1) YX10_share 113 [some (.inr (.inr 1)), some (.inl p1), some (.inl p2), some (.inl p3), some (.inl v4), some (.inl v5), some (.inl v6), none] [] (557, gn, e_RF, M) o) ∧ (¬ (v5 ≤ v4) → (∃ (r6 : Int) (N5 : e_M), e_E X d YX3_daysUpTo [.inr (.inr 36), .inl (e_w (Int.tdiv (e_w ((e_w (v4 + v5)) + 1)) 2)), .inl p2] (557, gn, e_RF, M) (.inl (some (.inl r6)), (557, gn, e_RF, N5)) ∧ ((p3 < r6 → e_G X (d + 1) YX10_share 55 [some (.inr (.inr 1)), some (.inl p1), some (.inl p2), some (.inl p3), some (.inl v4), some (.inl (e_w ((e_w (Int.tdiv (e_w ((e_w (v4 + v5)) + 1)) 2)) - 1))), some (.inl (e_w (v6 + 1))), none] [] (557, gn, e_RF, N5) o) ∧ (¬ (p3 < r6) → e_G X (d + 1) YX10_share 55 [some (.inr (.inr 1)), some (.inl p1), some (.inl p2), some (.inl p3), some (.inl (e_w (Int.tdiv (e_w ((e_w (v4 + v5)) + 1)) 2))), some (.inl v5), some (.inl (e_w (v6 + 1))), none] [] (557, gn, e_RF, N5) o)))))))) : e_G X (d + 1) YX10_share 55 [some (.inr (.inr 1)), some (.inl p1), some (.inl p2), some (.inl p3), some (.inl v4), some (.inl v5), some (.inl v6), none] [] (557, gn, e_RF, M) o := by
  refine e_r_iload (pc' := 57) dX10_share_55 rfl rfl ?_
  refine e_r_bipush (pc' := 59) dX10_share_57 rfl (by decide) ?_
  obtain ⟨ht1, hf2⟩ := h
  refine e_r_icmp_ge (tgt := 113) (pc' := 62) dX10_share_59 rfl rfl (fun c => ?_) (fun c => ?_)
  · have h := ht1 c
    exact h
  · have h := hf2 c
    refine e_r_iload (pc' := 64) dX10_share_62 rfl rfl ?_
    refine e_r_iload (pc' := 66) dX10_share_64 rfl rfl ?_
    obtain ⟨ht3, hf4⟩ := h
    refine e_r_icmp_ge (tgt := 113) (pc' := 69) dX10_share_66 rfl rfl (fun c => ?_) (fun c => ?_)
    · have h := ht3 c
      exact h
    · have h := hf4 c
      refine e_r_iload (pc' := 71) dX10_share_69 rfl rfl ?_
      refine e_r_iload (pc' := 73) dX10_share_71 rfl rfl ?_
      refine e_r_iadd (pc' := 74) dX10_share_73 rfl ?_
      refine e_r_iconst (pc' := 75) dX10_share_74 rfl (by decide) ?_
      refine e_r_iadd (pc' := 76) dX10_share_75 rfl ?_
      refine e_r_iconst (pc' := 77) dX10_share_76 rfl (by decide) ?_
      refine e_r_idiv (pc' := 78) (by decide) dX10_share_77 rfl ?_
      refine e_r_istore (pc' := 80) (loc' := [some (.inr (.inr 1)), some (.inl p1), some (.inl p2), some (.inl p3), some (.inl v4), some (.inl v5), some (.inl v6), some (.inl (e_w (Int.tdiv (e_w ((e_w (v4 + v5)) + 1)) 2)))]) dX10_share_78 rfl rfl rfl rfl ?_
      refine e_r_aload_n (pc' := 81) (by decide) dX10_share_80 rfl rfl rfl ?_
      refine e_r_getr (k := 8) (q := 36) (pc' := 84) cl_10 rfl (Nat.le_of_ble_eq_true rfl) rfl rfl fl_RX10_58 rfl (Nat.le_of_ble_eq_true rfl) dX10_share_81 rfl ?_
      refine e_r_iload (pc' := 86) dX10_share_84 rfl rfl ?_
      refine e_r_iload_n (pc' := 87) dX10_share_86 rfl rfl rfl ?_
      obtain ⟨r6, N5, he7, h⟩ := h
      refine e_r_callV (a := 36) (av := [.inl (e_w (Int.tdiv (e_w ((e_w (v4 + v5)) + 1)) 2)), .inl p2]) (st := []) mqYX3_daysUpTo ml_RX10_387 cl_3 rfl (Nat.le_of_ble_eq_true rfl) (by simp [e_cat]) rfl rfl rfl dX10_share_87 (pc' := 90) rfl he7 ⟨Nat.le_refl _, Nat.le_refl _⟩ hmo ?_
      refine e_r_iload_n (pc' := 91) dX10_share_90 rfl rfl rfl ?_
      obtain ⟨ht8, hf9⟩ := h
      refine e_r_icmp_gt (tgt := 101) (pc' := 94) dX10_share_91 rfl rfl (fun c => ?_) (fun c => ?_)
      · have h := ht8 c
        refine e_r_iload (pc' := 103) dX10_share_101 rfl rfl ?_
        refine e_r_iconst (pc' := 104) dX10_share_103 rfl (by decide) ?_
        refine e_r_isub (pc' := 105) dX10_share_104 rfl ?_
        refine e_r_istore (pc' := 107) (loc' := [some (.inr (.inr 1)), some (.inl p1), some (.inl p2), some (.inl p3), some (.inl v4), some (.inl (e_w ((e_w (Int.tdiv (e_w ((e_w (v4 + v5)) + 1)) 2)) - 1))), some (.inl v6), some (.inl (e_w (Int.tdiv (e_w ((e_w (v4 + v5)) + 1)) 2)))]) dX10_share_105 rfl rfl rfl rfl ?_
        refine e_r_iinc (pc' := 110) (loc' := [some (.inr (.inr 1)), some (.inl p1), some (.inl p2), some (.inl p3), some (.inl v4), some (.inl (e_w ((e_w (Int.tdiv (e_w ((e_w (v4 + v5)) + 1)) 2)) - 1))), some (.inl (e_w (v6 + 1))), some (.inl (e_w (Int.tdiv (e_w ((e_w (v4 + v5)) + 1)) 2)))]) dX10_share_107 rfl rfl rfl rfl rfl ?_
        refine e_r_goto (pc' := 55) dX10_share_110 rfl ?_
        exact e_forget (m := [true, true, true, true, true, true, true, false]) h rfl
      · have h := hf9 c
        refine e_r_iload (pc' := 96) dX10_share_94 rfl rfl ?_
        refine e_r_istore (pc' := 98) (loc' := [some (.inr (.inr 1)), some (.inl p1), some (.inl p2), some (.inl p3), some (.inl (e_w (Int.tdiv (e_w ((e_w (v4 + v5)) + 1)) 2))), some (.inl v5), some (.inl v6), some (.inl (e_w (Int.tdiv (e_w ((e_w (v4 + v5)) + 1)) 2)))]) dX10_share_96 rfl rfl rfl rfl ?_
        refine e_r_goto (pc' := 107) dX10_share_98 rfl ?_
        refine e_r_iinc (pc' := 110) (loc' := [some (.inr (.inr 1)), some (.inl p1), some (.inl p2), some (.inl p3), some (.inl (e_w (Int.tdiv (e_w ((e_w (v4 + v5)) + 1)) 2))), some (.inl v5), some (.inl (e_w (v6 + 1))), some (.inl (e_w (Int.tdiv (e_w ((e_w (v4 + v5)) + 1)) 2)))]) dX10_share_107 rfl rfl rfl rfl rfl ?_
        refine e_r_goto (pc' := 55) dX10_share_110 rfl ?_
        exact e_forget (m := [true, true, true, true, true, true, true, false]) h rfl
theorem wp_X10_share_113 {X : e_X} {d gn : Nat} {o : e_O} (M : e_M) (p1 p2 p3 v4 v5 v6 : Int) (h : ((0 ≤ p1 ∧ p1 < 6) ∧ (o = (.inl (some (.inl (min (M 38 p1.toNat) v4))), (557, gn, e_RF, M))))) : e_G X (d + 1) YX10_share 113 [some (.inr (.inr 1)), some (.inl p1), some (.inl p2), some (.inl p3), some (.inl v4), some (.inl v5), some (.inl v6), none] [] (557, gn, e_RF, M) o := by
  refine e_r_aload_n (pc' := 114) (by decide) dX10_share_113 rfl rfl rfl ?_
  refine e_r_getr (k := 8) (q := 36) (pc' := 117) cl_10 rfl (Nat.le_of_ble_eq_true rfl) rfl rfl fl_RX10_58 rfl (Nat.le_of_ble_eq_true rfl) dX10_share_114 rfl ?_
  refine e_r_getr (k := 6) (q := 38) (pc' := 120) cl_3 rfl (Nat.le_of_ble_eq_true rfl) rfl rfl fl_RX10_232 rfl (Nat.le_of_ble_eq_true rfl) dX10_share_117 rfl ?_
  refine e_r_iload_n (pc' := 121) dX10_share_120 rfl rfl rfl ?_
  obtain ⟨hb1, h⟩ := h
  refine e_r_iald (j9 := p1.toNat) (pc' := 122) rfl (Nat.le_of_ble_eq_true rfl) hb1.1 hb1.2 rfl dX10_share_121 rfl ?_
  refine e_r_iload (pc' := 124) dX10_share_122 rfl rfl ?_
  refine e_r_min (pc' := 127) lk_RX10_295 rfl dX10_share_124 rfl ?_
  exact e_r_iret (ty := .int) rfl (e_nI _) dX10_share_127 h
theorem wp_X10_youngest_0 {X : e_X} {d gn : Nat} {o : e_O} (M : e_M) (p1 : Int) (hmo : e_mn (557, gn, e_RF, M) o.2) (h : ((∃ N1 : e_M, e_E X d YX10_needWithin [.inr (.inr 1), .inl p1, .inl 0, .inl 1] (557, gn, e_RF, M) (.inl none, (557, gn, e_RF, N1)) ∧ e_G X (d + 1) YX10_youngest 11 [some (.inr (.inr 1)), some (.inl p1), some (.inl (-1)), some (.inl 0)] [] (557, gn, e_RF, N1) o) ∨ (∃ (z3 : Nat) (N4 : e_M), e_E X d YX10_needWithin [.inr (.inr 1), .inl p1, .inl 0, .inl 1] (557, gn, e_RF, M) (.inr z3, (557, gn + 1, e_RF, N4)) ∧ o = (.inr z3, (557, gn + 1, e_RF, N4))))) : e_G X (d + 1) YX10_youngest 0 [some (.inr (.inr 1)), some (.inl p1), none, none] [] (557, gn, e_RF, M) o := by
  refine e_r_aload_n (pc' := 1) (by decide) dX10_youngest_0 rfl rfl rfl ?_
  refine e_r_iload_n (pc' := 2) dX10_youngest_1 rfl rfl rfl ?_
  refine e_r_iconst (pc' := 3) dX10_youngest_2 rfl (by decide) ?_
  refine e_r_iconst (pc' := 4) dX10_youngest_3 rfl (by decide) ?_
  rcases h with ⟨N1, he2, h⟩ | ⟨z3, N4, he2, h⟩
  · refine e_r_callV (a := 1) (av := [.inl p1, .inl 0, .inl 1]) (st := []) mqYX10_needWithin ml_RX10_191 cl_10 rfl (Nat.le_of_ble_eq_true rfl) (by simp [e_cat]) rfl rfl rfl dX10_youngest_4 (pc' := 7) rfl he2 ⟨Nat.le_refl _, Nat.le_refl _⟩ hmo ?_
    refine e_r_iconst (pc' := 8) dX10_youngest_7 rfl (by decide) ?_
    refine e_r_istore_n (pc' := 9) (loc' := [some (.inr (.inr 1)), some (.inl p1), some (.inl (-1)), none]) dX10_youngest_8 rfl rfl rfl rfl rfl ?_
    refine e_r_iconst (pc' := 10) dX10_youngest_9 rfl (by decide) ?_
    refine e_r_istore_n (pc' := 11) (loc' := [some (.inr (.inr 1)), some (.inl p1), some (.inl (-1)), some (.inl 0)]) dX10_youngest_10 rfl rfl rfl rfl rfl ?_
    exact h
  · exact e_r_callVx (a := 1) (av := [.inl p1, .inl 0, .inl 1]) (st := []) mqYX10_needWithin ml_RX10_191 cl_10 rfl (Nat.le_of_ble_eq_true rfl) (by simp [e_cat]) rfl rfl rfl dX10_youngest_4 rfl he2 ⟨Nat.le_refl _, Nat.le_succ _⟩ h
theorem wp_X10_youngest_11 {X : e_X} {d gn : Nat} {o : e_O} (M : e_M) (p1 v2 v3 : Int) (h : (((M 4 0) ≤ v3 → ((p1 = 0 → (o = (.inl (some (.inl v2)), (557, gn, e_RF, M)))) ∧ (¬ (p1 = 0) → ((¬ v2 = (-1) → ((0 ≤ v2 ∧ v2 < 6) ∧ (o = (.inl (some (.inl (M 38 v2.toNat))), (557, gn, e_RF, M))))) ∧ (v2 = (-1) → (o = (.inl (some (.inl v2)), (557, gn, e_RF, M)))))))) ∧ (¬ ((M 4 0) ≤ v3) → ((v2 = (-1) → e_G X (d + 1) YX10_youngest 11 [some (.inr (.inr 1)), some (.inl p1), some (.inl v3), some (.inl (e_w (v3 + 1)))] [] (557, gn, e_RF, M) o) ∧ (¬ (v2 = (-1)) → ((0 ≤ v3 ∧ v3 < 6) ∧ ((0 ≤ v2 ∧ v2 < 6) ∧ (((M 38 v2.toNat) ≤ (M 38 v3.toNat) → e_G X (d + 1) YX10_youngest 11 [some (.inr (.inr 1)), some (.inl p1), some (.inl v2), some (.inl (e_w (v3 + 1)))] [] (557, gn, e_RF, M) o) ∧ (¬ ((M 38 v2.toNat) ≤ (M 38 v3.toNat)) → e_G X (d + 1) YX10_youngest 11 [some (.inr (.inr 1)), some (.inl p1), some (.inl v3), some (.inl (e_w (v3 + 1)))] [] (557, gn, e_RF, M) o))))))))) : e_G X (d + 1) YX10_youngest 11 [some (.inr (.inr 1)), some (.inl p1), some (.inl v2), some (.inl v3)] [] (557, gn, e_RF, M) o := by
  refine e_r_iload_n (pc' := 12) dX10_youngest_11 rfl rfl rfl ?_
  refine e_r_aload_n (pc' := 13) (by decide) dX10_youngest_12 rfl rfl rfl ?_
  refine e_r_getr (k := 1) (q := 4) (pc' := 16) cl_10 rfl (Nat.le_of_ble_eq_true rfl) rfl rfl fl_RX10_19 rfl (Nat.le_of_ble_eq_true rfl) dX10_youngest_13 rfl ?_
  refine e_r_geti (k := 0) (pc' := 19) cl_8 rfl (Nat.le_of_ble_eq_true rfl) rfl rfl fl_RX10_155 dX10_youngest_16 rfl ?_
  obtain ⟨ht1, hf2⟩ := h
  refine e_r_icmp_ge (tgt := 56) (pc' := 22) dX10_youngest_19 rfl rfl (fun c => ?_) (fun c => ?_)
  · have h := ht1 c
    refine e_r_iload_n (pc' := 57) dX10_youngest_56 rfl rfl rfl ?_
    obtain ⟨ht3, hf4⟩ := h
    refine e_r_if_eq (tgt := 65) (pc' := 60) dX10_youngest_57 rfl rfl (fun c => ?_) (fun c => ?_)
    · have h := ht3 c
      refine e_r_iload_n (pc' := 66) dX10_youngest_65 rfl rfl rfl ?_
      refine e_r_goto (pc' := 78) dX10_youngest_66 rfl ?_
      exact e_r_iret (ty := .int) rfl (e_nI _) dX10_youngest_78 h
    · have h := hf4 c
      refine e_r_iload_n (pc' := 61) dX10_youngest_60 rfl rfl rfl ?_
      refine e_r_iconst (pc' := 62) dX10_youngest_61 rfl (by decide) ?_
      obtain ⟨ht5, hf6⟩ := h
      refine e_r_icmp_ne (tgt := 69) (pc' := 65) dX10_youngest_62 rfl rfl (fun c => ?_) (fun c => ?_)
      · have h := ht5 c
        refine e_r_aload_n (pc' := 70) (by decide) dX10_youngest_69 rfl rfl rfl ?_
        refine e_r_getr (k := 8) (q := 36) (pc' := 73) cl_10 rfl (Nat.le_of_ble_eq_true rfl) rfl rfl fl_RX10_58 rfl (Nat.le_of_ble_eq_true rfl) dX10_youngest_70 rfl ?_
        refine e_r_getr (k := 6) (q := 38) (pc' := 76) cl_3 rfl (Nat.le_of_ble_eq_true rfl) rfl rfl fl_RX10_232 rfl (Nat.le_of_ble_eq_true rfl) dX10_youngest_73 rfl ?_
        refine e_r_iload_n (pc' := 77) dX10_youngest_76 rfl rfl rfl ?_
        obtain ⟨hb7, h⟩ := h
        refine e_r_iald (j9 := v2.toNat) (pc' := 78) rfl (Nat.le_of_ble_eq_true rfl) hb7.1 hb7.2 rfl dX10_youngest_77 rfl ?_
        exact e_r_iret (ty := .int) rfl (e_nI _) dX10_youngest_78 h
      · have h := hf6 c
        refine e_r_iload_n (pc' := 66) dX10_youngest_65 rfl rfl rfl ?_
        refine e_r_goto (pc' := 78) dX10_youngest_66 rfl ?_
        exact e_r_iret (ty := .int) rfl (e_nI _) dX10_youngest_78 h
  · have h := hf2 c
    refine e_r_iload_n (pc' := 23) dX10_youngest_22 rfl rfl rfl ?_
    refine e_r_iconst (pc' := 24) dX10_youngest_23 rfl (by decide) ?_
    obtain ⟨ht8, hf9⟩ := h
    refine e_r_icmp_eq (tgt := 48) (pc' := 27) dX10_youngest_24 rfl rfl (fun c => ?_) (fun c => ?_)
    · have h := ht8 c
      refine e_r_iload_n (pc' := 49) dX10_youngest_48 rfl rfl rfl ?_
      refine e_r_istore_n (pc' := 50) (loc' := [some (.inr (.inr 1)), some (.inl p1), some (.inl v3), some (.inl v3)]) dX10_youngest_49 rfl rfl rfl rfl rfl ?_
      refine e_r_iinc (pc' := 53) (loc' := [some (.inr (.inr 1)), some (.inl p1), some (.inl v3), some (.inl (e_w (v3 + 1)))]) dX10_youngest_50 rfl rfl rfl rfl rfl ?_
      refine e_r_goto (pc' := 11) dX10_youngest_53 rfl ?_
      exact h
    · have h := hf9 c
      refine e_r_aload_n (pc' := 28) (by decide) dX10_youngest_27 rfl rfl rfl ?_
      refine e_r_getr (k := 8) (q := 36) (pc' := 31) cl_10 rfl (Nat.le_of_ble_eq_true rfl) rfl rfl fl_RX10_58 rfl (Nat.le_of_ble_eq_true rfl) dX10_youngest_28 rfl ?_
      refine e_r_getr (k := 6) (q := 38) (pc' := 34) cl_3 rfl (Nat.le_of_ble_eq_true rfl) rfl rfl fl_RX10_232 rfl (Nat.le_of_ble_eq_true rfl) dX10_youngest_31 rfl ?_
      refine e_r_iload_n (pc' := 35) dX10_youngest_34 rfl rfl rfl ?_
      obtain ⟨hb10, h⟩ := h
      refine e_r_iald (j9 := v3.toNat) (pc' := 36) rfl (Nat.le_of_ble_eq_true rfl) hb10.1 hb10.2 rfl dX10_youngest_35 rfl ?_
      refine e_r_aload_n (pc' := 37) (by decide) dX10_youngest_36 rfl rfl rfl ?_
      refine e_r_getr (k := 8) (q := 36) (pc' := 40) cl_10 rfl (Nat.le_of_ble_eq_true rfl) rfl rfl fl_RX10_58 rfl (Nat.le_of_ble_eq_true rfl) dX10_youngest_37 rfl ?_
      refine e_r_getr (k := 6) (q := 38) (pc' := 43) cl_3 rfl (Nat.le_of_ble_eq_true rfl) rfl rfl fl_RX10_232 rfl (Nat.le_of_ble_eq_true rfl) dX10_youngest_40 rfl ?_
      refine e_r_iload_n (pc' := 44) dX10_youngest_43 rfl rfl rfl ?_
      obtain ⟨hb11, h⟩ := h
      refine e_r_iald (j9 := v2.toNat) (pc' := 45) rfl (Nat.le_of_ble_eq_true rfl) hb11.1 hb11.2 rfl dX10_youngest_44 rfl ?_
      obtain ⟨ht12, hf13⟩ := h
      refine e_r_icmp_ge (tgt := 50) (pc' := 48) dX10_youngest_45 rfl rfl (fun c => ?_) (fun c => ?_)
      · have h := ht12 c
        refine e_r_iinc (pc' := 53) (loc' := [some (.inr (.inr 1)), some (.inl p1), some (.inl v2), some (.inl (e_w (v3 + 1)))]) dX10_youngest_50 rfl rfl rfl rfl rfl ?_
        refine e_r_goto (pc' := 11) dX10_youngest_53 rfl ?_
        exact h
      · have h := hf13 c
        refine e_r_iload_n (pc' := 49) dX10_youngest_48 rfl rfl rfl ?_
        refine e_r_istore_n (pc' := 50) (loc' := [some (.inr (.inr 1)), some (.inl p1), some (.inl v3), some (.inl v3)]) dX10_youngest_49 rfl rfl rfl rfl rfl ?_
        refine e_r_iinc (pc' := 53) (loc' := [some (.inr (.inr 1)), some (.inl p1), some (.inl v3), some (.inl (e_w (v3 + 1)))]) dX10_youngest_50 rfl rfl rfl rfl rfl ?_
        refine e_r_goto (pc' := 11) dX10_youngest_53 rfl ?_
        exact h
theorem wp_X10_richest_0 {X : e_X} {d gn : Nat} {o : e_O} (M : e_M) (p1 : Int) (hmo : e_mn (557, gn, e_RF, M) o.2) (h : ((∃ N1 : e_M, e_E X d YX10_needWithin [.inr (.inr 1), .inl p1, .inl 0, .inl 1] (557, gn, e_RF, M) (.inl none, (557, gn, e_RF, N1)) ∧ e_G X (d + 1) YX10_richest 11 [some (.inr (.inr 1)), some (.inl p1), some (.inl (-1)), some (.inl 0)] [] (557, gn, e_RF, N1) o) ∨ (∃ (z3 : Nat) (N4 : e_M), e_E X d YX10_needWithin [.inr (.inr 1), .inl p1, .inl 0, .inl 1] (557, gn, e_RF, M) (.inr z3, (557, gn + 1, e_RF, N4)) ∧ o = (.inr z3, (557, gn + 1, e_RF, N4))))) : e_G X (d + 1) YX10_richest 0 [some (.inr (.inr 1)), some (.inl p1), none, none] [] (557, gn, e_RF, M) o := by
  refine e_r_aload_n (pc' := 1) (by decide) dX10_richest_0 rfl rfl rfl ?_
  refine e_r_iload_n (pc' := 2) dX10_richest_1 rfl rfl rfl ?_
  refine e_r_iconst (pc' := 3) dX10_richest_2 rfl (by decide) ?_
  refine e_r_iconst (pc' := 4) dX10_richest_3 rfl (by decide) ?_
  rcases h with ⟨N1, he2, h⟩ | ⟨z3, N4, he2, h⟩
  · refine e_r_callV (a := 1) (av := [.inl p1, .inl 0, .inl 1]) (st := []) mqYX10_needWithin ml_RX10_191 cl_10 rfl (Nat.le_of_ble_eq_true rfl) (by simp [e_cat]) rfl rfl rfl dX10_richest_4 (pc' := 7) rfl he2 ⟨Nat.le_refl _, Nat.le_refl _⟩ hmo ?_
    refine e_r_iconst (pc' := 8) dX10_richest_7 rfl (by decide) ?_
    refine e_r_istore_n (pc' := 9) (loc' := [some (.inr (.inr 1)), some (.inl p1), some (.inl (-1)), none]) dX10_richest_8 rfl rfl rfl rfl rfl ?_
    refine e_r_iconst (pc' := 10) dX10_richest_9 rfl (by decide) ?_
    refine e_r_istore_n (pc' := 11) (loc' := [some (.inr (.inr 1)), some (.inl p1), some (.inl (-1)), some (.inl 0)]) dX10_richest_10 rfl rfl rfl rfl rfl ?_
    exact h
  · exact e_r_callVx (a := 1) (av := [.inl p1, .inl 0, .inl 1]) (st := []) mqYX10_needWithin ml_RX10_191 cl_10 rfl (Nat.le_of_ble_eq_true rfl) (by simp [e_cat]) rfl rfl rfl dX10_richest_4 rfl he2 ⟨Nat.le_refl _, Nat.le_succ _⟩ h
theorem wp_X10_richest_11 {X : e_X} {d gn : Nat} {o : e_O} (M : e_M) (p1 v2 v3 : Int) (h : (((M 4 0) ≤ v3 → ((p1 = 0 → (o = (.inl (some (.inl v2)), (557, gn, e_RF, M)))) ∧ (¬ (p1 = 0) → ((¬ v2 = (-1) → ((0 ≤ v2 ∧ v2 < 6) ∧ (o = (.inl (some (.inl (M 37 v2.toNat))), (557, gn, e_RF, M))))) ∧ (v2 = (-1) → (o = (.inl (some (.inl v2)), (557, gn, e_RF, M)))))))) ∧ (¬ ((M 4 0) ≤ v3) → ((v2 = (-1) → e_G X (d + 1) YX10_richest 11 [some (.inr (.inr 1)), some (.inl p1), some (.inl v3), some (.inl (e_w (v3 + 1)))] [] (557, gn, e_RF, M) o) ∧ (¬ (v2 = (-1)) → ((0 ≤ v3 ∧ v3 < 6) ∧ ((0 ≤ v2 ∧ v2 < 6) ∧ (((M 37 v3.toNat) ≤ (M 37 v2.toNat) → e_G X (d + 1) YX10_richest 11 [some (.inr (.inr 1)), some (.inl p1), some (.inl v2), some (.inl (e_w (v3 + 1)))] [] (557, gn, e_RF, M) o) ∧ (¬ ((M 37 v3.toNat) ≤ (M 37 v2.toNat)) → e_G X (d + 1) YX10_richest 11 [some (.inr (.inr 1)), some (.inl p1), some (.inl v3), some (.inl (e_w (v3 + 1)))] [] (557, gn, e_RF, M) o))))))))) : e_G X (d + 1) YX10_richest 11 [some (.inr (.inr 1)), some (.inl p1), some (.inl v2), some (.inl v3)] [] (557, gn, e_RF, M) o := by
  refine e_r_iload_n (pc' := 12) dX10_richest_11 rfl rfl rfl ?_
  refine e_r_aload_n (pc' := 13) (by decide) dX10_richest_12 rfl rfl rfl ?_
  refine e_r_getr (k := 1) (q := 4) (pc' := 16) cl_10 rfl (Nat.le_of_ble_eq_true rfl) rfl rfl fl_RX10_19 rfl (Nat.le_of_ble_eq_true rfl) dX10_richest_13 rfl ?_
  refine e_r_geti (k := 0) (pc' := 19) cl_8 rfl (Nat.le_of_ble_eq_true rfl) rfl rfl fl_RX10_155 dX10_richest_16 rfl ?_
  obtain ⟨ht1, hf2⟩ := h
  refine e_r_icmp_ge (tgt := 56) (pc' := 22) dX10_richest_19 rfl rfl (fun c => ?_) (fun c => ?_)
  · have h := ht1 c
    refine e_r_iload_n (pc' := 57) dX10_richest_56 rfl rfl rfl ?_
    obtain ⟨ht3, hf4⟩ := h
    refine e_r_if_eq (tgt := 65) (pc' := 60) dX10_richest_57 rfl rfl (fun c => ?_) (fun c => ?_)
    · have h := ht3 c
      refine e_r_iload_n (pc' := 66) dX10_richest_65 rfl rfl rfl ?_
      refine e_r_goto (pc' := 78) dX10_richest_66 rfl ?_
      exact e_r_iret (ty := .int) rfl (e_nI _) dX10_richest_78 h
    · have h := hf4 c
      refine e_r_iload_n (pc' := 61) dX10_richest_60 rfl rfl rfl ?_
      refine e_r_iconst (pc' := 62) dX10_richest_61 rfl (by decide) ?_
      obtain ⟨ht5, hf6⟩ := h
      refine e_r_icmp_ne (tgt := 69) (pc' := 65) dX10_richest_62 rfl rfl (fun c => ?_) (fun c => ?_)
      · have h := ht5 c
        refine e_r_aload_n (pc' := 70) (by decide) dX10_richest_69 rfl rfl rfl ?_
        refine e_r_getr (k := 8) (q := 36) (pc' := 73) cl_10 rfl (Nat.le_of_ble_eq_true rfl) rfl rfl fl_RX10_58 rfl (Nat.le_of_ble_eq_true rfl) dX10_richest_70 rfl ?_
        refine e_r_getr (k := 5) (q := 37) (pc' := 76) cl_3 rfl (Nat.le_of_ble_eq_true rfl) rfl rfl fl_RX10_225 rfl (Nat.le_of_ble_eq_true rfl) dX10_richest_73 rfl ?_
        refine e_r_iload_n (pc' := 77) dX10_richest_76 rfl rfl rfl ?_
        obtain ⟨hb7, h⟩ := h
        refine e_r_iald (j9 := v2.toNat) (pc' := 78) rfl (Nat.le_of_ble_eq_true rfl) hb7.1 hb7.2 rfl dX10_richest_77 rfl ?_
        exact e_r_iret (ty := .int) rfl (e_nI _) dX10_richest_78 h
      · have h := hf6 c
        refine e_r_iload_n (pc' := 66) dX10_richest_65 rfl rfl rfl ?_
        refine e_r_goto (pc' := 78) dX10_richest_66 rfl ?_
        exact e_r_iret (ty := .int) rfl (e_nI _) dX10_richest_78 h
  · have h := hf2 c
    refine e_r_iload_n (pc' := 23) dX10_richest_22 rfl rfl rfl ?_
    refine e_r_iconst (pc' := 24) dX10_richest_23 rfl (by decide) ?_
    obtain ⟨ht8, hf9⟩ := h
    refine e_r_icmp_eq (tgt := 48) (pc' := 27) dX10_richest_24 rfl rfl (fun c => ?_) (fun c => ?_)
    · have h := ht8 c
      refine e_r_iload_n (pc' := 49) dX10_richest_48 rfl rfl rfl ?_
      refine e_r_istore_n (pc' := 50) (loc' := [some (.inr (.inr 1)), some (.inl p1), some (.inl v3), some (.inl v3)]) dX10_richest_49 rfl rfl rfl rfl rfl ?_
      refine e_r_iinc (pc' := 53) (loc' := [some (.inr (.inr 1)), some (.inl p1), some (.inl v3), some (.inl (e_w (v3 + 1)))]) dX10_richest_50 rfl rfl rfl rfl rfl ?_
      refine e_r_goto (pc' := 11) dX10_richest_53 rfl ?_
      exact h
    · have h := hf9 c
      refine e_r_aload_n (pc' := 28) (by decide) dX10_richest_27 rfl rfl rfl ?_
      refine e_r_getr (k := 8) (q := 36) (pc' := 31) cl_10 rfl (Nat.le_of_ble_eq_true rfl) rfl rfl fl_RX10_58 rfl (Nat.le_of_ble_eq_true rfl) dX10_richest_28 rfl ?_
      refine e_r_getr (k := 5) (q := 37) (pc' := 34) cl_3 rfl (Nat.le_of_ble_eq_true rfl) rfl rfl fl_RX10_225 rfl (Nat.le_of_ble_eq_true rfl) dX10_richest_31 rfl ?_
      refine e_r_iload_n (pc' := 35) dX10_richest_34 rfl rfl rfl ?_
      obtain ⟨hb10, h⟩ := h
      refine e_r_iald (j9 := v3.toNat) (pc' := 36) rfl (Nat.le_of_ble_eq_true rfl) hb10.1 hb10.2 rfl dX10_richest_35 rfl ?_
      refine e_r_aload_n (pc' := 37) (by decide) dX10_richest_36 rfl rfl rfl ?_
      refine e_r_getr (k := 8) (q := 36) (pc' := 40) cl_10 rfl (Nat.le_of_ble_eq_true rfl) rfl rfl fl_RX10_58 rfl (Nat.le_of_ble_eq_true rfl) dX10_richest_37 rfl ?_
      refine e_r_getr (k := 5) (q := 37) (pc' := 43) cl_3 rfl (Nat.le_of_ble_eq_true rfl) rfl rfl fl_RX10_225 rfl (Nat.le_of_ble_eq_true rfl) dX10_richest_40 rfl ?_
      refine e_r_iload_n (pc' := 44) dX10_richest_43 rfl rfl rfl ?_
      obtain ⟨hb11, h⟩ := h
      refine e_r_iald (j9 := v2.toNat) (pc' := 45) rfl (Nat.le_of_ble_eq_true rfl) hb11.1 hb11.2 rfl dX10_richest_44 rfl ?_
      obtain ⟨ht12, hf13⟩ := h
      refine e_r_icmp_le (tgt := 50) (pc' := 48) dX10_richest_45 rfl rfl (fun c => ?_) (fun c => ?_)
      · have h := ht12 c
        refine e_r_iinc (pc' := 53) (loc' := [some (.inr (.inr 1)), some (.inl p1), some (.inl v2), some (.inl (e_w (v3 + 1)))]) dX10_richest_50 rfl rfl rfl rfl rfl ?_
        refine e_r_goto (pc' := 11) dX10_richest_53 rfl ?_
        exact h
      · have h := hf13 c
        refine e_r_iload_n (pc' := 49) dX10_richest_48 rfl rfl rfl ?_
        refine e_r_istore_n (pc' := 50) (loc' := [some (.inr (.inr 1)), some (.inl p1), some (.inl v3), some (.inl v3)]) dX10_richest_49 rfl rfl rfl rfl rfl ?_
        refine e_r_iinc (pc' := 53) (loc' := [some (.inr (.inr 1)), some (.inl p1), some (.inl v3), some (.inl (e_w (v3 + 1)))]) dX10_richest_50 rfl rfl rfl rfl rfl ?_
        refine e_r_goto (pc' := 11) dX10_richest_53 rfl ?_
        exact h
theorem wp_X10_image_0 {X : e_X} {d gn : Nat} {o : e_O} (M : e_M) (hmo : e_mn (557, gn, e_RF, M) o.2) (h : (((M 1 15) < 3 → ((0 ≤ (M 1 15) ∧ (M 1 15) < 3) ∧ (∃ N4 : e_M, e_E X d YX5_copyFrom [.inr (.inr (58 + 2 * (M 1 15).toNat)), .inr (.inr 55)] (557, gn, e_RF, M) (.inl none, (557, gn, e_RF, N4)) ∧ ((0 ≤ (N4 1 15) ∧ (N4 1 15) < 3) ∧ (∃ N7 : e_M, e_E X d YX5_push [.inr (.inr (58 + 2 * (N4 1 15).toNat)), .inr (.inr 36)] (557, gn, e_RF, N4) (.inl none, (557, gn, e_RF, N7)) ∧ (o = (.inl (some (.inl ((e_up N7 1 15 (e_w ((N7 1 15) + 1))) 1 15))), (557, gn, e_RF, (e_up N7 1 15 (e_w ((N7 1 15) + 1))))))))))) ∧ (¬ ((M 1 15) < 3) → (o = (.inl (some (.inl (-1))), (557, gn, e_RF, M)))))) : e_G X (d + 1) YX10_image 0 [some (.inr (.inr 1))] [] (557, gn, e_RF, M) o := by
  refine e_r_aload_n (pc' := 1) (by decide) dX10_image_0 rfl rfl rfl ?_
  refine e_r_geti (k := 15) (pc' := 4) cl_10 rfl (Nat.le_of_ble_eq_true rfl) rfl rfl fl_RX10_101 dX10_image_1 rfl ?_
  refine e_r_iconst (pc' := 5) dX10_image_4 rfl (by decide) ?_
  obtain ⟨ht1, hf2⟩ := h
  refine e_r_icmp_lt (tgt := 10) (pc' := 8) dX10_image_5 rfl rfl (fun c => ?_) (fun c => ?_)
  · have h := ht1 c
    refine e_r_aload_n (pc' := 11) (by decide) dX10_image_10 rfl rfl rfl ?_
    refine e_r_getr (k := 14) (q := 57) (pc' := 14) cl_10 rfl (Nat.le_of_ble_eq_true rfl) rfl rfl fl_RX10_97 rfl (Nat.le_of_ble_eq_true rfl) dX10_image_11 rfl ?_
    refine e_r_aload_n (pc' := 15) (by decide) dX10_image_14 rfl rfl rfl ?_
    refine e_r_geti (k := 15) (pc' := 18) cl_10 rfl (Nat.le_of_ble_eq_true rfl) rfl rfl fl_RX10_101 dX10_image_15 rfl ?_
    obtain ⟨hb3, h⟩ := h
    refine e_r_aldq (q := (58 + 2 * (M 1 15).toNat)) (pc' := 19) rfl (Nat.le_of_ble_eq_true rfl) hb3.1 hb3.2 rfl (sq_57 hb3.1 hb3.2).2.1 dX10_image_18 rfl ?_
    refine e_r_aload_n (pc' := 20) (by decide) dX10_image_19 rfl rfl rfl ?_
    refine e_r_getr (k := 13) (q := 55) (pc' := 23) cl_10 rfl (Nat.le_of_ble_eq_true rfl) rfl rfl fl_RX10_93 rfl (Nat.le_of_ble_eq_true rfl) dX10_image_20 rfl ?_
    obtain ⟨N4, he5, h⟩ := h
    refine e_r_callV (a := (58 + 2 * (M 1 15).toNat)) (av := [.inr (.inr 55)]) (st := []) mqYX5_copyFrom ml_RX10_390 cl_5 (sq_57 hb3.1 hb3.2).1 (sq_57 hb3.1 hb3.2).2.1 (by simp [e_cat]) rfl rfl rfl dX10_image_23 (pc' := 26) rfl he5 ⟨Nat.le_refl _, Nat.le_refl _⟩ hmo ?_
    refine e_r_aload_n (pc' := 27) (by decide) dX10_image_26 rfl rfl rfl ?_
    refine e_r_getr (k := 14) (q := 57) (pc' := 30) cl_10 rfl (Nat.le_of_ble_eq_true rfl) rfl rfl fl_RX10_97 rfl (Nat.le_of_ble_eq_true rfl) dX10_image_27 rfl ?_
    refine e_r_aload_n (pc' := 31) (by decide) dX10_image_30 rfl rfl rfl ?_
    refine e_r_geti (k := 15) (pc' := 34) cl_10 rfl (Nat.le_of_ble_eq_true rfl) rfl rfl fl_RX10_101 dX10_image_31 rfl ?_
    obtain ⟨hb6, h⟩ := h
    refine e_r_aldq (q := (58 + 2 * (N4 1 15).toNat)) (pc' := 35) rfl (Nat.le_of_ble_eq_true rfl) hb6.1 hb6.2 rfl (sq_57 hb6.1 hb6.2).2.1 dX10_image_34 rfl ?_
    refine e_r_aload_n (pc' := 36) (by decide) dX10_image_35 rfl rfl rfl ?_
    refine e_r_getr (k := 8) (q := 36) (pc' := 39) cl_10 rfl (Nat.le_of_ble_eq_true rfl) rfl rfl fl_RX10_58 rfl (Nat.le_of_ble_eq_true rfl) dX10_image_36 rfl ?_
    obtain ⟨N7, he8, h⟩ := h
    refine e_r_callV (a := (58 + 2 * (N4 1 15).toNat)) (av := [.inr (.inr 36)]) (st := []) mqYX5_push ml_RX10_168 cl_5 (sq_57 hb6.1 hb6.2).1 (sq_57 hb6.1 hb6.2).2.1 (by simp [e_cat]) rfl rfl rfl dX10_image_39 (pc' := 42) rfl he8 ⟨Nat.le_refl _, Nat.le_refl _⟩ hmo ?_
    refine e_r_aload_n (pc' := 43) (by decide) dX10_image_42 rfl rfl rfl ?_
    refine e_r_dup (pc' := 44) rfl dX10_image_43 rfl ?_
    refine e_r_geti (k := 15) (pc' := 47) cl_10 rfl (Nat.le_of_ble_eq_true rfl) rfl rfl fl_RX10_101 dX10_image_44 rfl ?_
    refine e_r_iconst (pc' := 48) dX10_image_47 rfl (by decide) ?_
    refine e_r_iadd (pc' := 49) dX10_image_48 rfl ?_
    refine e_r_puti (k := 15) (pc' := 52) cl_10 rfl (Nat.le_of_ble_eq_true rfl) rfl rfl fl_RX10_101 rfl (by decide +kernel) dX10_image_49 rfl ?_
    refine e_r_aload_n (pc' := 53) (by decide) dX10_image_52 rfl rfl rfl ?_
    refine e_r_geti (k := 15) (pc' := 56) cl_10 rfl (Nat.le_of_ble_eq_true rfl) rfl rfl fl_RX10_101 dX10_image_53 rfl ?_
    exact e_r_iret (ty := .int) rfl (e_nI _) dX10_image_56 h
  · have h := hf2 c
    refine e_r_iconst (pc' := 9) dX10_image_8 rfl (by decide) ?_
    exact e_r_iret (ty := .int) rfl (e_nI _) dX10_image_9 h
theorem wp_X10_restore_0 {X : e_X} {d gn : Nat} {o : e_O} (M : e_M) (hmo : e_mn (557, gn, e_RF, M) o.2) (h : ((0 < (M 1 15) → ((0 ≤ ((e_up M 1 15 (e_w ((M 1 15) - 1))) 1 15) ∧ ((e_up M 1 15 (e_w ((M 1 15) - 1))) 1 15) < 3) ∧ (∃ (r5 : Int) (N4 : e_M), e_E X d YX5_popInto [.inr (.inr (58 + 2 * ((e_up M 1 15 (e_w ((M 1 15) - 1))) 1 15).toNat)), .inr (.inr 36)] (557, gn, e_RF, (e_up M 1 15 (e_w ((M 1 15) - 1)))) (.inl (some (.inl r5)), (557, gn, e_RF, N4)) ∧ ((0 ≤ (N4 1 15) ∧ (N4 1 15) < 3) ∧ (∃ N8 : e_M, e_E X d YX5_copyFrom [.inr (.inr 55), .inr (.inr (58 + 2 * (N4 1 15).toNat))] (557, gn, e_RF, N4) (.inl none, (557, gn, e_RF, N8)) ∧ (∃ N10 : e_M, e_E X d YX4_forgetRefused [.inr (.inr 32)] (557, gn, e_RF, N8) (.inl none, (557, gn, e_RF, N10)) ∧ (o = (.inl (some (.inl (N10 1 15))), (557, gn, e_RF, N10))))))))) ∧ (¬ (0 < (M 1 15)) → (o = (.inl (some (.inl (-1))), (557, gn, e_RF, M)))))) : e_G X (d + 1) YX10_restore 0 [some (.inr (.inr 1))] [] (557, gn, e_RF, M) o := by
  refine e_r_aload_n (pc' := 1) (by decide) dX10_restore_0 rfl rfl rfl ?_
  refine e_r_geti (k := 15) (pc' := 4) cl_10 rfl (Nat.le_of_ble_eq_true rfl) rfl rfl fl_RX10_101 dX10_restore_1 rfl ?_
  obtain ⟨ht1, hf2⟩ := h
  refine e_r_if_gt (tgt := 9) (pc' := 7) dX10_restore_4 rfl rfl (fun c => ?_) (fun c => ?_)
  · have h := ht1 c
    refine e_r_aload_n (pc' := 10) (by decide) dX10_restore_9 rfl rfl rfl ?_
    refine e_r_dup (pc' := 11) rfl dX10_restore_10 rfl ?_
    refine e_r_geti (k := 15) (pc' := 14) cl_10 rfl (Nat.le_of_ble_eq_true rfl) rfl rfl fl_RX10_101 dX10_restore_11 rfl ?_
    refine e_r_iconst (pc' := 15) dX10_restore_14 rfl (by decide) ?_
    refine e_r_isub (pc' := 16) dX10_restore_15 rfl ?_
    refine e_r_puti (k := 15) (pc' := 19) cl_10 rfl (Nat.le_of_ble_eq_true rfl) rfl rfl fl_RX10_101 rfl (by decide +kernel) dX10_restore_16 rfl ?_
    refine e_r_aload_n (pc' := 20) (by decide) dX10_restore_19 rfl rfl rfl ?_
    refine e_r_getr (k := 14) (q := 57) (pc' := 23) cl_10 rfl (Nat.le_of_ble_eq_true rfl) rfl rfl fl_RX10_97 rfl (Nat.le_of_ble_eq_true rfl) dX10_restore_20 rfl ?_
    refine e_r_aload_n (pc' := 24) (by decide) dX10_restore_23 rfl rfl rfl ?_
    refine e_r_geti (k := 15) (pc' := 27) cl_10 rfl (Nat.le_of_ble_eq_true rfl) rfl rfl fl_RX10_101 dX10_restore_24 rfl ?_
    obtain ⟨hb3, h⟩ := h
    refine e_r_aldq (q := (58 + 2 * ((e_up M 1 15 (e_w ((M 1 15) - 1))) 1 15).toNat)) (pc' := 28) rfl (Nat.le_of_ble_eq_true rfl) hb3.1 hb3.2 rfl (sq_57 hb3.1 hb3.2).2.1 dX10_restore_27 rfl ?_
    refine e_r_aload_n (pc' := 29) (by decide) dX10_restore_28 rfl rfl rfl ?_
    refine e_r_getr (k := 8) (q := 36) (pc' := 32) cl_10 rfl (Nat.le_of_ble_eq_true rfl) rfl rfl fl_RX10_58 rfl (Nat.le_of_ble_eq_true rfl) dX10_restore_29 rfl ?_
    obtain ⟨r5, N4, he6, h⟩ := h
    refine e_r_callV (a := (58 + 2 * ((e_up M 1 15 (e_w ((M 1 15) - 1))) 1 15).toNat)) (av := [.inr (.inr 36)]) (st := []) mqYX5_popInto ml_RX10_187 cl_5 (sq_57 hb3.1 hb3.2).1 (sq_57 hb3.1 hb3.2).2.1 (by simp [e_cat]) rfl rfl rfl dX10_restore_32 (pc' := 35) rfl he6 ⟨Nat.le_refl _, Nat.le_refl _⟩ hmo ?_
    refine e_r_pop (pc' := 36) rfl dX10_restore_35 rfl ?_
    refine e_r_aload_n (pc' := 37) (by decide) dX10_restore_36 rfl rfl rfl ?_
    refine e_r_getr (k := 13) (q := 55) (pc' := 40) cl_10 rfl (Nat.le_of_ble_eq_true rfl) rfl rfl fl_RX10_93 rfl (Nat.le_of_ble_eq_true rfl) dX10_restore_37 rfl ?_
    refine e_r_aload_n (pc' := 41) (by decide) dX10_restore_40 rfl rfl rfl ?_
    refine e_r_getr (k := 14) (q := 57) (pc' := 44) cl_10 rfl (Nat.le_of_ble_eq_true rfl) rfl rfl fl_RX10_97 rfl (Nat.le_of_ble_eq_true rfl) dX10_restore_41 rfl ?_
    refine e_r_aload_n (pc' := 45) (by decide) dX10_restore_44 rfl rfl rfl ?_
    refine e_r_geti (k := 15) (pc' := 48) cl_10 rfl (Nat.le_of_ble_eq_true rfl) rfl rfl fl_RX10_101 dX10_restore_45 rfl ?_
    obtain ⟨hb7, h⟩ := h
    refine e_r_aldq (q := (58 + 2 * (N4 1 15).toNat)) (pc' := 49) rfl (Nat.le_of_ble_eq_true rfl) hb7.1 hb7.2 rfl (sq_57 hb7.1 hb7.2).2.1 dX10_restore_48 rfl ?_
    obtain ⟨N8, he9, h⟩ := h
    refine e_r_callV (a := 55) (av := [.inr (.inr (58 + 2 * (N4 1 15).toNat))]) (st := []) mqYX5_copyFrom ml_RX10_390 cl_5 rfl (Nat.le_of_ble_eq_true rfl) (by simp [e_cat]) rfl rfl rfl dX10_restore_49 (pc' := 52) rfl he9 ⟨Nat.le_refl _, Nat.le_refl _⟩ hmo ?_
    refine e_r_aload_n (pc' := 53) (by decide) dX10_restore_52 rfl rfl rfl ?_
    refine e_r_getr (k := 7) (q := 32) (pc' := 56) cl_10 rfl (Nat.le_of_ble_eq_true rfl) rfl rfl fl_RX10_49 rfl (Nat.le_of_ble_eq_true rfl) dX10_restore_53 rfl ?_
    obtain ⟨N10, he11, h⟩ := h
    refine e_r_callV (a := 32) (av := []) (st := []) mqYX4_forgetRefused ml_RX10_151 cl_4 rfl (Nat.le_of_ble_eq_true rfl) (by simp [e_cat]) rfl rfl rfl dX10_restore_56 (pc' := 59) rfl he11 ⟨Nat.le_refl _, Nat.le_refl _⟩ hmo ?_
    refine e_r_aload_n (pc' := 60) (by decide) dX10_restore_59 rfl rfl rfl ?_
    refine e_r_geti (k := 15) (pc' := 63) cl_10 rfl (Nat.le_of_ble_eq_true rfl) rfl rfl fl_RX10_101 dX10_restore_60 rfl ?_
    exact e_r_iret (ty := .int) rfl (e_nI _) dX10_restore_63 h
  · have h := hf2 c
    refine e_r_iconst (pc' := 8) dX10_restore_7 rfl (by decide) ?_
    exact e_r_iret (ty := .int) rfl (e_nI _) dX10_restore_8 h
theorem wp_X10_status_0 {X : e_X} {d gn : Nat} {o : e_O} (M : e_M) (p1 : Int) (h : ((p1 = 0 → (o = (.inl (some (.inl (M 1 16))), (557, gn, e_RF, M)))) ∧ (p1 = 1 → (o = (.inl (some (.inl (M 1 17))), (557, gn, e_RF, M)))) ∧ (¬ p1 = 0 ∧ ¬ p1 = 1 → (o = (.inl (some (.inl (-1))), (557, gn, e_RF, M)))))) : e_G X d YX10_status 0 [some (.inr (.inr 1)), some (.inl p1)] [] (557, gn, e_RF, M) o := by
  refine e_r_iload_n (pc' := 1) dX10_status_0 rfl rfl rfl ?_
  obtain ⟨hk1, hk2, hd3⟩ := h
  by_cases c4 : p1 = 0
  · have h := hk1 c4
    refine e_r_lookup (pc' := 28) dX10_status_1 rfl 27 (by rw [c4]; rfl) rfl ?_
    refine e_r_aload_n (pc' := 29) (by decide) dX10_status_28 rfl rfl rfl ?_
    refine e_r_geti (k := 16) (pc' := 32) cl_10 rfl (Nat.le_of_ble_eq_true rfl) rfl rfl fl_RX10_105 dX10_status_29 rfl ?_
    exact e_r_iret (ty := .int) rfl (e_nI _) dX10_status_32 h
  by_cases c5 : p1 = 1
  · have h := hk2 c5
    refine e_r_lookup (pc' := 33) dX10_status_1 rfl 32 (by rw [c5]; rfl) rfl ?_
    refine e_r_aload_n (pc' := 34) (by decide) dX10_status_33 rfl rfl rfl ?_
    refine e_r_geti (k := 17) (pc' := 37) cl_10 rfl (Nat.le_of_ble_eq_true rfl) rfl rfl fl_RX10_108 dX10_status_34 rfl ?_
    exact e_r_iret (ty := .int) rfl (e_nI _) dX10_status_37 h
  have h := hd3 ⟨c4, c5⟩
  refine e_r_lookup (pc' := 38) dX10_status_1 rfl 37 (by simp [Op.lookupswitch.offset, show ¬ (0 : Int) = p1 from fun z => c4 z.symm, show ¬ (1 : Int) = p1 from fun z => c5 z.symm]) rfl ?_
  refine e_r_iconst (pc' := 39) dX10_status_38 rfl (by decide) ?_
  exact e_r_iret (ty := .int) rfl (e_nI _) dX10_status_39 h
theorem wp_X10_count_0 {X : e_X} {d gn : Nat} {o : e_O} (M : e_M) (p1 : Int) (h : ((p1 = 0 → (o = (.inl (some (.inl (M 1 15))), (557, gn, e_RF, M)))) ∧ (p1 = 1 → (o = (.inl (some (.inl (M 2 1))), (557, gn, e_RF, M)))) ∧ (p1 = 2 → (o = (.inl (some (.inl (M 55 1))), (557, gn, e_RF, M)))) ∧ (p1 < 0 ∨ 2 < p1 → (o = (.inl (some (.inl (-1))), (557, gn, e_RF, M)))))) : e_G X d YX10_count 0 [some (.inr (.inr 1)), some (.inl p1)] [] (557, gn, e_RF, M) o := by
  refine e_r_iload_n (pc' := 1) dX10_count_0 rfl rfl rfl ?_
  obtain ⟨hk1, hk2, hk3, hd4⟩ := h
  refine e_r_table (tgt := 49) dX10_count_1 rfl (fun j => bif Nat.beq j 0 then 28 else bif Nat.beq j 1 then 33 else 41) (fun j hj => ?_) (fun j ej hj => ?_) (fun c => ?_)
  · rcases (show j = 0 ∨ j = 1 ∨ j = 2 by omega) with rfl | rfl | rfl
    · exact ⟨27, rfl, rfl⟩
    · exact ⟨32, rfl, rfl⟩
    · exact ⟨40, rfl, rfl⟩
  · rcases (show j = 0 ∨ j = 1 ∨ j = 2 by omega) with rfl | rfl | rfl
    · have h := hk1 (by omega)
      show e_G X d YX10_count 28 [some (.inr (.inr 1)), some (.inl p1)] [] (557, gn, e_RF, M) o
      refine e_r_aload_n (pc' := 29) (by decide) dX10_count_28 rfl rfl rfl ?_
      refine e_r_geti (k := 15) (pc' := 32) cl_10 rfl (Nat.le_of_ble_eq_true rfl) rfl rfl fl_RX10_101 dX10_count_29 rfl ?_
      exact e_r_iret (ty := .int) rfl (e_nI _) dX10_count_32 h
    · have h := hk2 (by omega)
      show e_G X d YX10_count 33 [some (.inr (.inr 1)), some (.inl p1)] [] (557, gn, e_RF, M) o
      refine e_r_aload_n (pc' := 34) (by decide) dX10_count_33 rfl rfl rfl ?_
      refine e_r_getr (k := 0) (q := 2) (pc' := 37) cl_10 rfl (Nat.le_of_ble_eq_true rfl) rfl rfl fl_RX10_10 rfl (Nat.le_of_ble_eq_true rfl) dX10_count_34 rfl ?_
      refine e_r_geti (k := 1) (pc' := 40) cl_7 rfl (Nat.le_of_ble_eq_true rfl) rfl rfl fl_RX10_122 dX10_count_37 rfl ?_
      exact e_r_iret (ty := .int) rfl (e_nI _) dX10_count_40 h
    · have h := hk3 (by omega)
      show e_G X d YX10_count 41 [some (.inr (.inr 1)), some (.inl p1)] [] (557, gn, e_RF, M) o
      refine e_r_aload_n (pc' := 42) (by decide) dX10_count_41 rfl rfl rfl ?_
      refine e_r_getr (k := 13) (q := 55) (pc' := 45) cl_10 rfl (Nat.le_of_ble_eq_true rfl) rfl rfl fl_RX10_93 rfl (Nat.le_of_ble_eq_true rfl) dX10_count_42 rfl ?_
      refine e_r_geti (k := 1) (pc' := 48) cl_5 rfl (Nat.le_of_ble_eq_true rfl) rfl rfl fl_RX10_162 dX10_count_45 rfl ?_
      exact e_r_iret (ty := .int) rfl (e_nI _) dX10_count_48 h
  · have h := hd4 c
    refine e_r_iconst (pc' := 50) dX10_count_49 rfl (by decide) ?_
    exact e_r_iret (ty := .int) rfl (e_nI _) dX10_count_50 h
theorem wp_X10_needWithin_0 {X : e_X} {d gn : Nat} {o : e_O} (M : e_M) (p1 p2 p3 : Int) (h : ((p1 < p2 → e_G X (d + 1) YX10_needWithin 10 [some (.inr (.inr 1)), some (.inl p1), some (.inl p2), some (.inl p3)] [] (557, gn, e_RF, M) o) ∧ (¬ (p1 < p2) → ((p1 ≤ p3 → (o = (.inl none, (557, gn, e_RF, M)))) ∧ (¬ (p1 ≤ p3) → e_G X (d + 1) YX10_needWithin 10 [some (.inr (.inr 1)), some (.inl p1), some (.inl p2), some (.inl p3)] [] (557, gn, e_RF, M) o))))) : e_G X (d + 1) YX10_needWithin 0 [some (.inr (.inr 1)), some (.inl p1), some (.inl p2), some (.inl p3)] [] (557, gn, e_RF, M) o := by
  refine e_r_iload_n (pc' := 1) dX10_needWithin_0 rfl rfl rfl ?_
  refine e_r_iload_n (pc' := 2) dX10_needWithin_1 rfl rfl rfl ?_
  obtain ⟨ht1, hf2⟩ := h
  refine e_r_icmp_lt (tgt := 10) (pc' := 5) dX10_needWithin_2 rfl rfl (fun c => ?_) (fun c => ?_)
  · have h := ht1 c
    exact h
  · have h := hf2 c
    refine e_r_iload_n (pc' := 6) dX10_needWithin_5 rfl rfl rfl ?_
    refine e_r_iload_n (pc' := 7) dX10_needWithin_6 rfl rfl rfl ?_
    obtain ⟨ht3, hf4⟩ := h
    refine e_r_icmp_le (tgt := 14) (pc' := 10) dX10_needWithin_7 rfl rfl (fun c => ?_) (fun c => ?_)
    · have h := ht3 c
      exact e_r_vret rfl dX10_needWithin_14 h
    · have h := hf4 c
      exact h
theorem wp_X10_needWithin_10 {X : e_X} {d gn : Nat} {o : e_O} (M : e_M) (p1 p2 p3 : Int) (hmo : e_mn (557, gn, e_RF, M) o.2) (h : ((∃ N1 : e_M, e_E X d YX10_refuseArgument [.inr (.inr 1)] (557, gn, e_RF, M) (.inl none, (557, gn, e_RF, N1)) ∧ (o = (.inl none, (557, gn, e_RF, N1)))) ∨ (∃ (z3 : Nat) (N4 : e_M), e_E X d YX10_refuseArgument [.inr (.inr 1)] (557, gn, e_RF, M) (.inr z3, (557, gn + 1, e_RF, N4)) ∧ o = (.inr z3, (557, gn + 1, e_RF, N4))))) : e_G X (d + 1) YX10_needWithin 10 [some (.inr (.inr 1)), some (.inl p1), some (.inl p2), some (.inl p3)] [] (557, gn, e_RF, M) o := by
  refine e_r_aload_n (pc' := 11) (by decide) dX10_needWithin_10 rfl rfl rfl ?_
  rcases h with ⟨N1, he2, h⟩ | ⟨z3, N4, he2, h⟩
  · refine e_r_callV (a := 1) (av := []) (st := []) mqYX10_refuseArgument ml_RX10_405 cl_10 rfl (Nat.le_of_ble_eq_true rfl) (by simp [e_cat]) rfl rfl rfl dX10_needWithin_11 (pc' := 14) rfl he2 ⟨Nat.le_refl _, Nat.le_refl _⟩ hmo ?_
    exact e_r_vret rfl dX10_needWithin_14 h
  · exact e_r_callVx (a := 1) (av := []) (st := []) mqYX10_refuseArgument ml_RX10_405 cl_10 rfl (Nat.le_of_ble_eq_true rfl) (by simp [e_cat]) rfl rfl rfl dX10_needWithin_11 rfl he2 ⟨Nat.le_refl _, Nat.le_succ _⟩ h
theorem wp_X10_needText_0 {X : e_X} {d gn : Nat} {o : e_O} (M : e_M) (p1 p2 : Int) (hmo : e_mn (557, gn, e_RF, M) o.2) (h : ((∃ N1 : e_M, e_E X d YX10_needWithin [.inr (.inr 1), .inl p1, .inl 0, .inl (min (M 2 1) p2)] (557, gn, e_RF, M) (.inl none, (557, gn, e_RF, N1)) ∧ (o = (.inl none, (557, gn, e_RF, N1)))) ∨ (∃ (z3 : Nat) (N4 : e_M), e_E X d YX10_needWithin [.inr (.inr 1), .inl p1, .inl 0, .inl (min (M 2 1) p2)] (557, gn, e_RF, M) (.inr z3, (557, gn + 1, e_RF, N4)) ∧ o = (.inr z3, (557, gn + 1, e_RF, N4))))) : e_G X (d + 1) YX10_needText 0 [some (.inr (.inr 1)), some (.inl p1), some (.inl p2)] [] (557, gn, e_RF, M) o := by
  refine e_r_aload_n (pc' := 1) (by decide) dX10_needText_0 rfl rfl rfl ?_
  refine e_r_iload_n (pc' := 2) dX10_needText_1 rfl rfl rfl ?_
  refine e_r_iconst (pc' := 3) dX10_needText_2 rfl (by decide) ?_
  refine e_r_aload_n (pc' := 4) (by decide) dX10_needText_3 rfl rfl rfl ?_
  refine e_r_getr (k := 0) (q := 2) (pc' := 7) cl_10 rfl (Nat.le_of_ble_eq_true rfl) rfl rfl fl_RX10_10 rfl (Nat.le_of_ble_eq_true rfl) dX10_needText_4 rfl ?_
  refine e_r_geti (k := 1) (pc' := 10) cl_7 rfl (Nat.le_of_ble_eq_true rfl) rfl rfl fl_RX10_122 dX10_needText_7 rfl ?_
  refine e_r_iload_n (pc' := 11) dX10_needText_10 rfl rfl rfl ?_
  refine e_r_min (pc' := 14) lk_RX10_295 rfl dX10_needText_11 rfl ?_
  rcases h with ⟨N1, he2, h⟩ | ⟨z3, N4, he2, h⟩
  · refine e_r_callV (a := 1) (av := [.inl p1, .inl 0, .inl (min (M 2 1) p2)]) (st := []) mqYX10_needWithin ml_RX10_191 cl_10 rfl (Nat.le_of_ble_eq_true rfl) (by simp [e_cat]) rfl rfl rfl dX10_needText_14 (pc' := 17) rfl he2 ⟨Nat.le_refl _, Nat.le_refl _⟩ hmo ?_
    exact e_r_vret rfl dX10_needText_17 h
  · exact e_r_callVx (a := 1) (av := [.inl p1, .inl 0, .inl (min (M 2 1) p2)]) (st := []) mqYX10_needWithin ml_RX10_191 cl_10 rfl (Nat.le_of_ble_eq_true rfl) (by simp [e_cat]) rfl rfl rfl dX10_needText_14 rfl he2 ⟨Nat.le_refl _, Nat.le_succ _⟩ h
theorem wp_X10_needPerson_0 {X : e_X} {d gn : Nat} {o : e_O} (M : e_M) (p1 : Int) (h : ((p1 < 0 → e_G X (d + 1) YX10_needPerson 15 [some (.inr (.inr 1)), some (.inl p1)] [] (557, gn, e_RF, M) o) ∧ (¬ (p1 < 0) → ((p1 < (M 4 0) → (o = (.inl none, (557, gn, e_RF, M)))) ∧ (¬ (p1 < (M 4 0)) → e_G X (d + 1) YX10_needPerson 15 [some (.inr (.inr 1)), some (.inl p1)] [] (557, gn, e_RF, M) o))))) : e_G X (d + 1) YX10_needPerson 0 [some (.inr (.inr 1)), some (.inl p1)] [] (557, gn, e_RF, M) o := by
  refine e_r_iload_n (pc' := 1) dX10_needPerson_0 rfl rfl rfl ?_
  obtain ⟨ht1, hf2⟩ := h
  refine e_r_if_lt (tgt := 15) (pc' := 4) dX10_needPerson_1 rfl rfl (fun c => ?_) (fun c => ?_)
  · have h := ht1 c
    exact h
  · have h := hf2 c
    refine e_r_iload_n (pc' := 5) dX10_needPerson_4 rfl rfl rfl ?_
    refine e_r_aload_n (pc' := 6) (by decide) dX10_needPerson_5 rfl rfl rfl ?_
    refine e_r_getr (k := 1) (q := 4) (pc' := 9) cl_10 rfl (Nat.le_of_ble_eq_true rfl) rfl rfl fl_RX10_19 rfl (Nat.le_of_ble_eq_true rfl) dX10_needPerson_6 rfl ?_
    refine e_r_geti (k := 0) (pc' := 12) cl_8 rfl (Nat.le_of_ble_eq_true rfl) rfl rfl fl_RX10_155 dX10_needPerson_9 rfl ?_
    obtain ⟨ht3, hf4⟩ := h
    refine e_r_icmp_lt (tgt := 19) (pc' := 15) dX10_needPerson_12 rfl rfl (fun c => ?_) (fun c => ?_)
    · have h := ht3 c
      exact e_r_vret rfl dX10_needPerson_19 h
    · have h := hf4 c
      exact h
theorem wp_X10_needPerson_15 {X : e_X} {d gn : Nat} {o : e_O} (M : e_M) (p1 : Int) (hmo : e_mn (557, gn, e_RF, M) o.2) (h : ((∃ N1 : e_M, e_E X d YX10_refuseMissing [.inr (.inr 1)] (557, gn, e_RF, M) (.inl none, (557, gn, e_RF, N1)) ∧ (o = (.inl none, (557, gn, e_RF, N1)))) ∨ (∃ (z3 : Nat) (N4 : e_M), e_E X d YX10_refuseMissing [.inr (.inr 1)] (557, gn, e_RF, M) (.inr z3, (557, gn + 1, e_RF, N4)) ∧ o = (.inr z3, (557, gn + 1, e_RF, N4))))) : e_G X (d + 1) YX10_needPerson 15 [some (.inr (.inr 1)), some (.inl p1)] [] (557, gn, e_RF, M) o := by
  refine e_r_aload_n (pc' := 16) (by decide) dX10_needPerson_15 rfl rfl rfl ?_
  rcases h with ⟨N1, he2, h⟩ | ⟨z3, N4, he2, h⟩
  · refine e_r_callV (a := 1) (av := []) (st := []) mqYX10_refuseMissing ml_RX10_408 cl_10 rfl (Nat.le_of_ble_eq_true rfl) (by simp [e_cat]) rfl rfl rfl dX10_needPerson_16 (pc' := 19) rfl he2 ⟨Nat.le_refl _, Nat.le_refl _⟩ hmo ?_
    exact e_r_vret rfl dX10_needPerson_19 h
  · exact e_r_callVx (a := 1) (av := []) (st := []) mqYX10_refuseMissing ml_RX10_408 cl_10 rfl (Nat.le_of_ble_eq_true rfl) (by simp [e_cat]) rfl rfl rfl dX10_needPerson_16 rfl he2 ⟨Nat.le_refl _, Nat.le_succ _⟩ h
theorem wp_X10_needDuty_0 {X : e_X} {d gn : Nat} {o : e_O} (M : e_M) (p1 : Int) (h : ((p1 < 0 → e_G X (d + 1) YX10_needDuty 15 [some (.inr (.inr 1)), some (.inl p1)] [] (557, gn, e_RF, M) o) ∧ (¬ (p1 < 0) → ((p1 < (M 4 1) → (o = (.inl none, (557, gn, e_RF, M)))) ∧ (¬ (p1 < (M 4 1)) → e_G X (d + 1) YX10_needDuty 15 [some (.inr (.inr 1)), some (.inl p1)] [] (557, gn, e_RF, M) o))))) : e_G X (d + 1) YX10_needDuty 0 [some (.inr (.inr 1)), some (.inl p1)] [] (557, gn, e_RF, M) o := by
  refine e_r_iload_n (pc' := 1) dX10_needDuty_0 rfl rfl rfl ?_
  obtain ⟨ht1, hf2⟩ := h
  refine e_r_if_lt (tgt := 15) (pc' := 4) dX10_needDuty_1 rfl rfl (fun c => ?_) (fun c => ?_)
  · have h := ht1 c
    exact h
  · have h := hf2 c
    refine e_r_iload_n (pc' := 5) dX10_needDuty_4 rfl rfl rfl ?_
    refine e_r_aload_n (pc' := 6) (by decide) dX10_needDuty_5 rfl rfl rfl ?_
    refine e_r_getr (k := 1) (q := 4) (pc' := 9) cl_10 rfl (Nat.le_of_ble_eq_true rfl) rfl rfl fl_RX10_19 rfl (Nat.le_of_ble_eq_true rfl) dX10_needDuty_6 rfl ?_
    refine e_r_geti (k := 1) (pc' := 12) cl_8 rfl (Nat.le_of_ble_eq_true rfl) rfl rfl fl_RX10_195 dX10_needDuty_9 rfl ?_
    obtain ⟨ht3, hf4⟩ := h
    refine e_r_icmp_lt (tgt := 19) (pc' := 15) dX10_needDuty_12 rfl rfl (fun c => ?_) (fun c => ?_)
    · have h := ht3 c
      exact e_r_vret rfl dX10_needDuty_19 h
    · have h := hf4 c
      exact h
theorem wp_X10_needDuty_15 {X : e_X} {d gn : Nat} {o : e_O} (M : e_M) (p1 : Int) (hmo : e_mn (557, gn, e_RF, M) o.2) (h : ((∃ N1 : e_M, e_E X d YX10_refuseMissing [.inr (.inr 1)] (557, gn, e_RF, M) (.inl none, (557, gn, e_RF, N1)) ∧ (o = (.inl none, (557, gn, e_RF, N1)))) ∨ (∃ (z3 : Nat) (N4 : e_M), e_E X d YX10_refuseMissing [.inr (.inr 1)] (557, gn, e_RF, M) (.inr z3, (557, gn + 1, e_RF, N4)) ∧ o = (.inr z3, (557, gn + 1, e_RF, N4))))) : e_G X (d + 1) YX10_needDuty 15 [some (.inr (.inr 1)), some (.inl p1)] [] (557, gn, e_RF, M) o := by
  refine e_r_aload_n (pc' := 16) (by decide) dX10_needDuty_15 rfl rfl rfl ?_
  rcases h with ⟨N1, he2, h⟩ | ⟨z3, N4, he2, h⟩
  · refine e_r_callV (a := 1) (av := []) (st := []) mqYX10_refuseMissing ml_RX10_408 cl_10 rfl (Nat.le_of_ble_eq_true rfl) (by simp [e_cat]) rfl rfl rfl dX10_needDuty_16 (pc' := 19) rfl he2 ⟨Nat.le_refl _, Nat.le_refl _⟩ hmo ?_
    exact e_r_vret rfl dX10_needDuty_19 h
  · exact e_r_callVx (a := 1) (av := []) (st := []) mqYX10_refuseMissing ml_RX10_408 cl_10 rfl (Nat.le_of_ble_eq_true rfl) (by simp [e_cat]) rfl rfl rfl dX10_needDuty_16 rfl he2 ⟨Nat.le_refl _, Nat.le_succ _⟩ h
theorem wp_X10_needTask_0 {X : e_X} {d gn : Nat} {o : e_O} (M : e_M) (p1 : Int) (h : ((p1 < 0 → e_G X (d + 1) YX10_needTask 15 [some (.inr (.inr 1)), some (.inl p1)] [] (557, gn, e_RF, M) o) ∧ (¬ (p1 < 0) → ((p1 < (M 4 2) → (o = (.inl none, (557, gn, e_RF, M)))) ∧ (¬ (p1 < (M 4 2)) → e_G X (d + 1) YX10_needTask 15 [some (.inr (.inr 1)), some (.inl p1)] [] (557, gn, e_RF, M) o))))) : e_G X (d + 1) YX10_needTask 0 [some (.inr (.inr 1)), some (.inl p1)] [] (557, gn, e_RF, M) o := by
  refine e_r_iload_n (pc' := 1) dX10_needTask_0 rfl rfl rfl ?_
  obtain ⟨ht1, hf2⟩ := h
  refine e_r_if_lt (tgt := 15) (pc' := 4) dX10_needTask_1 rfl rfl (fun c => ?_) (fun c => ?_)
  · have h := ht1 c
    exact h
  · have h := hf2 c
    refine e_r_iload_n (pc' := 5) dX10_needTask_4 rfl rfl rfl ?_
    refine e_r_aload_n (pc' := 6) (by decide) dX10_needTask_5 rfl rfl rfl ?_
    refine e_r_getr (k := 1) (q := 4) (pc' := 9) cl_10 rfl (Nat.le_of_ble_eq_true rfl) rfl rfl fl_RX10_19 rfl (Nat.le_of_ble_eq_true rfl) dX10_needTask_6 rfl ?_
    refine e_r_geti (k := 2) (pc' := 12) cl_8 rfl (Nat.le_of_ble_eq_true rfl) rfl rfl fl_RX10_198 dX10_needTask_9 rfl ?_
    obtain ⟨ht3, hf4⟩ := h
    refine e_r_icmp_lt (tgt := 19) (pc' := 15) dX10_needTask_12 rfl rfl (fun c => ?_) (fun c => ?_)
    · have h := ht3 c
      exact e_r_vret rfl dX10_needTask_19 h
    · have h := hf4 c
      exact h
theorem wp_X10_needTask_15 {X : e_X} {d gn : Nat} {o : e_O} (M : e_M) (p1 : Int) (hmo : e_mn (557, gn, e_RF, M) o.2) (h : ((∃ N1 : e_M, e_E X d YX10_refuseMissing [.inr (.inr 1)] (557, gn, e_RF, M) (.inl none, (557, gn, e_RF, N1)) ∧ (o = (.inl none, (557, gn, e_RF, N1)))) ∨ (∃ (z3 : Nat) (N4 : e_M), e_E X d YX10_refuseMissing [.inr (.inr 1)] (557, gn, e_RF, M) (.inr z3, (557, gn + 1, e_RF, N4)) ∧ o = (.inr z3, (557, gn + 1, e_RF, N4))))) : e_G X (d + 1) YX10_needTask 15 [some (.inr (.inr 1)), some (.inl p1)] [] (557, gn, e_RF, M) o := by
  refine e_r_aload_n (pc' := 16) (by decide) dX10_needTask_15 rfl rfl rfl ?_
  rcases h with ⟨N1, he2, h⟩ | ⟨z3, N4, he2, h⟩
  · refine e_r_callV (a := 1) (av := []) (st := []) mqYX10_refuseMissing ml_RX10_408 cl_10 rfl (Nat.le_of_ble_eq_true rfl) (by simp [e_cat]) rfl rfl rfl dX10_needTask_16 (pc' := 19) rfl he2 ⟨Nat.le_refl _, Nat.le_refl _⟩ hmo ?_
    exact e_r_vret rfl dX10_needTask_19 h
  · exact e_r_callVx (a := 1) (av := []) (st := []) mqYX10_refuseMissing ml_RX10_408 cl_10 rfl (Nat.le_of_ble_eq_true rfl) (by simp [e_cat]) rfl rfl rfl dX10_needTask_16 rfl he2 ⟨Nat.le_refl _, Nat.le_succ _⟩ h
theorem wp_X10_needTwo_0 {X : e_X} {d gn : Nat} {o : e_O} (M : e_M) (p1 p2 p3 : Int) (hmo : e_mn (557, gn, e_RF, M) o.2) (h : ((∃ N1 : e_M, e_E X d YX10_needPerson [.inr (.inr 1), .inl p1] (557, gn, e_RF, M) (.inl none, (557, gn, e_RF, N1)) ∧ ((∃ N5 : e_M, e_E X d YX10_needPerson [.inr (.inr 1), .inl p2] (557, gn, e_RF, N1) (.inl none, (557, gn, e_RF, N5)) ∧ ((¬ p1 = p2 → e_G X (d + 1) YX10_needTwo 19 [some (.inr (.inr 1)), some (.inl p1), some (.inl p2), some (.inl p3)] [] (557, gn, e_RF, N5) o) ∧ (p1 = p2 → ((∃ N11 : e_M, e_E X d YX10_refuseArgument [.inr (.inr 1)] (557, gn, e_RF, N5) (.inl none, (557, gn, e_RF, N11)) ∧ e_G X (d + 1) YX10_needTwo 19 [some (.inr (.inr 1)), some (.inl p1), some (.inl p2), some (.inl p3)] [] (557, gn, e_RF, N11) o) ∨ (∃ (z13 : Nat) (N14 : e_M), e_E X d YX10_refuseArgument [.inr (.inr 1)] (557, gn, e_RF, N5) (.inr z13, (557, gn + 1, e_RF, N14)) ∧ o = (.inr z13, (557, gn + 1, e_RF, N14))))))) ∨ (∃ (z7 : Nat) (N8 : e_M), e_E X d YX10_needPerson [.inr (.inr 1), .inl p2] (557, gn, e_RF, N1) (.inr z7, (557, gn + 1, e_RF, N8)) ∧ o = (.inr z7, (557, gn + 1, e_RF, N8))))) ∨ (∃ (z3 : Nat) (N4 : e_M), e_E X d YX10_needPerson [.inr (.inr 1), .inl p1] (557, gn, e_RF, M) (.inr z3, (557, gn + 1, e_RF, N4)) ∧ o = (.inr z3, (557, gn + 1, e_RF, N4))))) : e_G X (d + 1) YX10_needTwo 0 [some (.inr (.inr 1)), some (.inl p1), some (.inl p2), some (.inl p3)] [] (557, gn, e_RF, M) o := by
  refine e_r_aload_n (pc' := 1) (by decide) dX10_needTwo_0 rfl rfl rfl ?_
  refine e_r_iload_n (pc' := 2) dX10_needTwo_1 rfl rfl rfl ?_
  rcases h with ⟨N1, he2, h⟩ | ⟨z3, N4, he2, h⟩
  · refine e_r_callV (a := 1) (av := [.inl p1]) (st := []) mqYX10_needPerson ml_RX10_222 cl_10 rfl (Nat.le_of_ble_eq_true rfl) (by simp [e_cat]) rfl rfl rfl dX10_needTwo_2 (pc' := 5) rfl he2 ⟨Nat.le_refl _, Nat.le_refl _⟩ hmo ?_
    refine e_r_aload_n (pc' := 6) (by decide) dX10_needTwo_5 rfl rfl rfl ?_
    refine e_r_iload_n (pc' := 7) dX10_needTwo_6 rfl rfl rfl ?_
    rcases h with ⟨N5, he6, h⟩ | ⟨z7, N8, he6, h⟩
    · refine e_r_callV (a := 1) (av := [.inl p2]) (st := []) mqYX10_needPerson ml_RX10_222 cl_10 rfl (Nat.le_of_ble_eq_true rfl) (by simp [e_cat]) rfl rfl rfl dX10_needTwo_7 (pc' := 10) rfl he6 ⟨Nat.le_refl _, Nat.le_refl _⟩ hmo ?_
      refine e_r_iload_n (pc' := 11) dX10_needTwo_10 rfl rfl rfl ?_
      refine e_r_iload_n (pc' := 12) dX10_needTwo_11 rfl rfl rfl ?_
      obtain ⟨ht9, hf10⟩ := h
      refine e_r_icmp_ne (tgt := 19) (pc' := 15) dX10_needTwo_12 rfl rfl (fun c => ?_) (fun c => ?_)
      · have h := ht9 c
        exact h
      · have h := hf10 c
        refine e_r_aload_n (pc' := 16) (by decide) dX10_needTwo_15 rfl rfl rfl ?_
        rcases h with ⟨N11, he12, h⟩ | ⟨z13, N14, he12, h⟩
        · refine e_r_callV (a := 1) (av := []) (st := []) mqYX10_refuseArgument ml_RX10_405 cl_10 rfl (Nat.le_of_ble_eq_true rfl) (by simp [e_cat]) rfl rfl rfl dX10_needTwo_16 (pc' := 19) rfl he12 ⟨Nat.le_refl _, Nat.le_refl _⟩ hmo ?_
          exact h
        · exact e_r_callVx (a := 1) (av := []) (st := []) mqYX10_refuseArgument ml_RX10_405 cl_10 rfl (Nat.le_of_ble_eq_true rfl) (by simp [e_cat]) rfl rfl rfl dX10_needTwo_16 rfl he12 ⟨Nat.le_refl _, Nat.le_succ _⟩ h
    · exact e_r_callVx (a := 1) (av := [.inl p2]) (st := []) mqYX10_needPerson ml_RX10_222 cl_10 rfl (Nat.le_of_ble_eq_true rfl) (by simp [e_cat]) rfl rfl rfl dX10_needTwo_7 rfl he6 ⟨Nat.le_refl _, Nat.le_succ _⟩ h
  · exact e_r_callVx (a := 1) (av := [.inl p1]) (st := []) mqYX10_needPerson ml_RX10_222 cl_10 rfl (Nat.le_of_ble_eq_true rfl) (by simp [e_cat]) rfl rfl rfl dX10_needTwo_2 rfl he2 ⟨Nat.le_refl _, Nat.le_succ _⟩ h
theorem wp_X10_needTwo_19 {X : e_X} {d gn : Nat} {o : e_O} (M : e_M) (p1 p2 p3 : Int) (hmo : e_mn (557, gn, e_RF, M) o.2) (h : ((∃ N1 : e_M, e_E X d YX10_needWithin [.inr (.inr 1), .inl p3, .inl 0, .inl 20] (557, gn, e_RF, M) (.inl none, (557, gn, e_RF, N1)) ∧ (o = (.inl none, (557, gn, e_RF, N1)))) ∨ (∃ (z3 : Nat) (N4 : e_M), e_E X d YX10_needWithin [.inr (.inr 1), .inl p3, .inl 0, .inl 20] (557, gn, e_RF, M) (.inr z3, (557, gn + 1, e_RF, N4)) ∧ o = (.inr z3, (557, gn + 1, e_RF, N4))))) : e_G X (d + 1) YX10_needTwo 19 [some (.inr (.inr 1)), some (.inl p1), some (.inl p2), some (.inl p3)] [] (557, gn, e_RF, M) o := by
  refine e_r_aload_n (pc' := 20) (by decide) dX10_needTwo_19 rfl rfl rfl ?_
  refine e_r_iload_n (pc' := 21) dX10_needTwo_20 rfl rfl rfl ?_
  refine e_r_iconst (pc' := 22) dX10_needTwo_21 rfl (by decide) ?_
  refine e_r_bipush (pc' := 24) dX10_needTwo_22 rfl (by decide) ?_
  rcases h with ⟨N1, he2, h⟩ | ⟨z3, N4, he2, h⟩
  · refine e_r_callV (a := 1) (av := [.inl p3, .inl 0, .inl 20]) (st := []) mqYX10_needWithin ml_RX10_191 cl_10 rfl (Nat.le_of_ble_eq_true rfl) (by simp [e_cat]) rfl rfl rfl dX10_needTwo_24 (pc' := 27) rfl he2 ⟨Nat.le_refl _, Nat.le_refl _⟩ hmo ?_
    exact e_r_vret rfl dX10_needTwo_27 h
  · exact e_r_callVx (a := 1) (av := [.inl p3, .inl 0, .inl 20]) (st := []) mqYX10_needWithin ml_RX10_191 cl_10 rfl (Nat.le_of_ble_eq_true rfl) (by simp [e_cat]) rfl rfl rfl dX10_needTwo_24 rfl he2 ⟨Nat.le_refl _, Nat.le_succ _⟩ h
theorem wp_X10_needYear_0 {X : e_X} {d gn : Nat} {o : e_O} (M : e_M) (p1 p2 p3 : Int) (hmo : e_mn (557, gn, e_RF, M) o.2) (h : ((∃ N1 : e_M, e_E X d YX10_needWithin [.inr (.inr 1), .inl p1, .inl 1, .inl 96] (557, gn, e_RF, M) (.inl none, (557, gn, e_RF, N1)) ∧ ((∃ N5 : e_M, e_E X d YX10_needWithin [.inr (.inr 1), .inl p2, .inl 0, .inl 16] (557, gn, e_RF, N1) (.inl none, (557, gn, e_RF, N5)) ∧ ((∃ N9 : e_M, e_E X d YX10_needWithin [.inr (.inr 1), .inl p3, .inl 0, .inl 16] (557, gn, e_RF, N5) (.inl none, (557, gn, e_RF, N9)) ∧ (o = (.inl none, (557, gn, e_RF, N9)))) ∨ (∃ (z11 : Nat) (N12 : e_M), e_E X d YX10_needWithin [.inr (.inr 1), .inl p3, .inl 0, .inl 16] (557, gn, e_RF, N5) (.inr z11, (557, gn + 1, e_RF, N12)) ∧ o = (.inr z11, (557, gn + 1, e_RF, N12))))) ∨ (∃ (z7 : Nat) (N8 : e_M), e_E X d YX10_needWithin [.inr (.inr 1), .inl p2, .inl 0, .inl 16] (557, gn, e_RF, N1) (.inr z7, (557, gn + 1, e_RF, N8)) ∧ o = (.inr z7, (557, gn + 1, e_RF, N8))))) ∨ (∃ (z3 : Nat) (N4 : e_M), e_E X d YX10_needWithin [.inr (.inr 1), .inl p1, .inl 1, .inl 96] (557, gn, e_RF, M) (.inr z3, (557, gn + 1, e_RF, N4)) ∧ o = (.inr z3, (557, gn + 1, e_RF, N4))))) : e_G X (d + 1) YX10_needYear 0 [some (.inr (.inr 1)), some (.inl p1), some (.inl p2), some (.inl p3)] [] (557, gn, e_RF, M) o := by
  refine e_r_aload_n (pc' := 1) (by decide) dX10_needYear_0 rfl rfl rfl ?_
  refine e_r_iload_n (pc' := 2) dX10_needYear_1 rfl rfl rfl ?_
  refine e_r_iconst (pc' := 3) dX10_needYear_2 rfl (by decide) ?_
  refine e_r_bipush (pc' := 5) dX10_needYear_3 rfl (by decide) ?_
  rcases h with ⟨N1, he2, h⟩ | ⟨z3, N4, he2, h⟩
  · refine e_r_callV (a := 1) (av := [.inl p1, .inl 1, .inl 96]) (st := []) mqYX10_needWithin ml_RX10_191 cl_10 rfl (Nat.le_of_ble_eq_true rfl) (by simp [e_cat]) rfl rfl rfl dX10_needYear_5 (pc' := 8) rfl he2 ⟨Nat.le_refl _, Nat.le_refl _⟩ hmo ?_
    refine e_r_aload_n (pc' := 9) (by decide) dX10_needYear_8 rfl rfl rfl ?_
    refine e_r_iload_n (pc' := 10) dX10_needYear_9 rfl rfl rfl ?_
    refine e_r_iconst (pc' := 11) dX10_needYear_10 rfl (by decide) ?_
    refine e_r_bipush (pc' := 13) dX10_needYear_11 rfl (by decide) ?_
    rcases h with ⟨N5, he6, h⟩ | ⟨z7, N8, he6, h⟩
    · refine e_r_callV (a := 1) (av := [.inl p2, .inl 0, .inl 16]) (st := []) mqYX10_needWithin ml_RX10_191 cl_10 rfl (Nat.le_of_ble_eq_true rfl) (by simp [e_cat]) rfl rfl rfl dX10_needYear_13 (pc' := 16) rfl he6 ⟨Nat.le_refl _, Nat.le_refl _⟩ hmo ?_
      refine e_r_aload_n (pc' := 17) (by decide) dX10_needYear_16 rfl rfl rfl ?_
      refine e_r_iload_n (pc' := 18) dX10_needYear_17 rfl rfl rfl ?_
      refine e_r_iconst (pc' := 19) dX10_needYear_18 rfl (by decide) ?_
      refine e_r_bipush (pc' := 21) dX10_needYear_19 rfl (by decide) ?_
      rcases h with ⟨N9, he10, h⟩ | ⟨z11, N12, he10, h⟩
      · refine e_r_callV (a := 1) (av := [.inl p3, .inl 0, .inl 16]) (st := []) mqYX10_needWithin ml_RX10_191 cl_10 rfl (Nat.le_of_ble_eq_true rfl) (by simp [e_cat]) rfl rfl rfl dX10_needYear_21 (pc' := 24) rfl he10 ⟨Nat.le_refl _, Nat.le_refl _⟩ hmo ?_
        exact e_r_vret rfl dX10_needYear_24 h
      · exact e_r_callVx (a := 1) (av := [.inl p3, .inl 0, .inl 16]) (st := []) mqYX10_needWithin ml_RX10_191 cl_10 rfl (Nat.le_of_ble_eq_true rfl) (by simp [e_cat]) rfl rfl rfl dX10_needYear_21 rfl he10 ⟨Nat.le_refl _, Nat.le_succ _⟩ h
    · exact e_r_callVx (a := 1) (av := [.inl p2, .inl 0, .inl 16]) (st := []) mqYX10_needWithin ml_RX10_191 cl_10 rfl (Nat.le_of_ble_eq_true rfl) (by simp [e_cat]) rfl rfl rfl dX10_needYear_13 rfl he6 ⟨Nat.le_refl _, Nat.le_succ _⟩ h
  · exact e_r_callVx (a := 1) (av := [.inl p1, .inl 1, .inl 96]) (st := []) mqYX10_needWithin ml_RX10_191 cl_10 rfl (Nat.le_of_ble_eq_true rfl) (by simp [e_cat]) rfl rfl rfl dX10_needYear_5 rfl he2 ⟨Nat.le_refl _, Nat.le_succ _⟩ h
