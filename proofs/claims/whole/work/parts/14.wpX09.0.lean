theorem wp_X9_liveFrom_0 {X : e_X} {d gn : Nat} {o : e_O} (M : e_M) (p2 p3 p4 p5 : Int) (hmo : e_mn (557, gn, e_RF, M) o.2) (h : (∃ N1 : e_M, e_E X d YX3_copyFrom [.inr (.inr 43), .inr (.inr 36)] (557, gn, e_RF, M) (.inl none, (557, gn, e_RF, N1)) ∧ e_G X (d + 1) YX9_liveFrom 33 [some (.inr (.inr 54)), some (.inr (.inr 36)), some (.inl p2), some (.inl p3), some (.inl p4), some (.inl p5), some (.inl ((e_up (e_up N1 54 1 p2) 54 2 0) 4 0)), some (.inl 0)] [] (557, gn, e_RF, (e_up (e_up N1 54 1 p2) 54 2 0)) o)) : e_G X (d + 1) YX9_liveFrom 0 [some (.inr (.inr 54)), some (.inr (.inr 36)), some (.inl p2), some (.inl p3), some (.inl p4), some (.inl p5), none, none] [] (557, gn, e_RF, M) o := by
  refine e_r_aload_n (pc' := 1) (by decide) dX9_liveFrom_0 rfl rfl rfl ?_
  refine e_r_getr (k := 0) (q := 43) (pc' := 4) cl_9 rfl (Nat.le_of_ble_eq_true rfl) rfl rfl fl_RX9_16 rfl (Nat.le_of_ble_eq_true rfl) dX9_liveFrom_1 rfl ?_
  refine e_r_aload_n (pc' := 5) (by decide) dX9_liveFrom_4 rfl rfl rfl ?_
  obtain ⟨N1, he2, h⟩ := h
  refine e_r_callV (a := 43) (av := [.inr (.inr 36)]) (st := []) mqYX3_copyFrom ml_RX9_20 cl_3 rfl (Nat.le_of_ble_eq_true rfl) (by simp [e_cat]) rfl rfl rfl dX9_liveFrom_5 (pc' := 8) rfl he2 ⟨Nat.le_refl _, Nat.le_refl _⟩ hmo ?_
  refine e_r_aload_n (pc' := 9) (by decide) dX9_liveFrom_8 rfl rfl rfl ?_
  refine e_r_iload_n (pc' := 10) dX9_liveFrom_9 rfl rfl rfl ?_
  refine e_r_puti (k := 1) (pc' := 13) cl_9 rfl (Nat.le_of_ble_eq_true rfl) rfl rfl fl_RX9_7 rfl (by decide +kernel) dX9_liveFrom_10 rfl ?_
  refine e_r_aload_n (pc' := 14) (by decide) dX9_liveFrom_13 rfl rfl rfl ?_
  refine e_r_iconst (pc' := 15) dX9_liveFrom_14 rfl (by decide) ?_
  refine e_r_puti (k := 2) (pc' := 18) cl_9 rfl (Nat.le_of_ble_eq_true rfl) rfl rfl fl_RX9_13 rfl (by decide +kernel) dX9_liveFrom_15 rfl ?_
  refine e_r_aload_n (pc' := 19) (by decide) dX9_liveFrom_18 rfl rfl rfl ?_
  refine e_r_getr (k := 0) (q := 43) (pc' := 22) cl_9 rfl (Nat.le_of_ble_eq_true rfl) rfl rfl fl_RX9_16 rfl (Nat.le_of_ble_eq_true rfl) dX9_liveFrom_19 rfl ?_
  refine e_r_getrN (k := 0) (q := 4) (pc' := 25) cl_3 rfl (Nat.le_of_ble_eq_true rfl) rfl rfl nf_RX9_26 rfl (Nat.le_of_ble_eq_true rfl) dX9_liveFrom_22 rfl ?_
  refine e_r_geti (k := 0) (pc' := 28) cl_8 rfl (Nat.le_of_ble_eq_true rfl) rfl rfl fl_RX9_30 dX9_liveFrom_25 rfl ?_
  refine e_r_istore (pc' := 30) (loc' := [some (.inr (.inr 54)), some (.inr (.inr 36)), some (.inl p2), some (.inl p3), some (.inl p4), some (.inl p5), some (.inl ((e_up (e_up N1 54 1 p2) 54 2 0) 4 0)), none]) dX9_liveFrom_28 rfl rfl rfl rfl ?_
  refine e_r_iconst (pc' := 31) dX9_liveFrom_30 rfl (by decide) ?_
  refine e_r_istore (pc' := 33) (loc' := [some (.inr (.inr 54)), some (.inr (.inr 36)), some (.inl p2), some (.inl p3), some (.inl p4), some (.inl p5), some (.inl ((e_up (e_up N1 54 1 p2) 54 2 0) 4 0)), some (.inl 0)]) dX9_liveFrom_31 rfl rfl rfl rfl ?_
  exact h
theorem wp_X9_liveFrom_33 {X : e_X} {d gn : Nat} {o : e_O} (M : e_M) (p2 p3 p4 p5 v6 v7 : Int) (hmo : e_mn (557, gn, e_RF, M) o.2) (h : ((p3 ≤ v7 → (o = (.inl none, (557, gn, e_RF, M)))) ∧ (¬ (p3 ≤ v7) → ((v6 ≤ 0 → e_G X (d + 1) YX9_liveFrom 54 [some (.inr (.inr 54)), some (.inr (.inr 36)), some (.inl p2), some (.inl p3), some (.inl p4), some (.inl p5), some (.inl v6), some (.inl v7)] [] (557, gn, e_RF, M) o) ∧ (¬ (v6 ≤ 0) → (∃ N5 : e_M, e_E X d YX9_tradeAmong [.inr (.inr 54), .inl v6, .inl p4, .inl p5] (557, gn, e_RF, M) (.inl none, (557, gn, e_RF, N5)) ∧ e_G X (d + 1) YX9_liveFrom 54 [some (.inr (.inr 54)), some (.inr (.inr 36)), some (.inl p2), some (.inl p3), some (.inl p4), some (.inl p5), some (.inl v6), some (.inl v7)] [] (557, gn, e_RF, N5) o)))))) : e_G X (d + 1) YX9_liveFrom 33 [some (.inr (.inr 54)), some (.inr (.inr 36)), some (.inl p2), some (.inl p3), some (.inl p4), some (.inl p5), some (.inl v6), some (.inl v7)] [] (557, gn, e_RF, M) o := by
  refine e_r_iload (pc' := 35) dX9_liveFrom_33 rfl rfl ?_
  refine e_r_iload_n (pc' := 36) dX9_liveFrom_35 rfl rfl rfl ?_
  obtain ⟨ht1, hf2⟩ := h
  refine e_r_icmp_ge (tgt := 67) (pc' := 39) dX9_liveFrom_36 rfl rfl (fun c => ?_) (fun c => ?_)
  · have h := ht1 c
    exact e_r_vret rfl dX9_liveFrom_67 h
  · have h := hf2 c
    refine e_r_iload (pc' := 41) dX9_liveFrom_39 rfl rfl ?_
    obtain ⟨ht3, hf4⟩ := h
    refine e_r_if_le (tgt := 54) (pc' := 44) dX9_liveFrom_41 rfl rfl (fun c => ?_) (fun c => ?_)
    · have h := ht3 c
      exact h
    · have h := hf4 c
      refine e_r_aload_n (pc' := 45) (by decide) dX9_liveFrom_44 rfl rfl rfl ?_
      refine e_r_iload (pc' := 47) dX9_liveFrom_45 rfl rfl ?_
      refine e_r_iload (pc' := 49) dX9_liveFrom_47 rfl rfl ?_
      refine e_r_iload (pc' := 51) dX9_liveFrom_49 rfl rfl ?_
      obtain ⟨N5, he6, h⟩ := h
      refine e_r_callV (a := 54) (av := [.inl v6, .inl p4, .inl p5]) (st := []) mqYX9_tradeAmong ml_RX9_35 cl_9 rfl (Nat.le_of_ble_eq_true rfl) (by simp [e_cat]) rfl rfl rfl dX9_liveFrom_51 (pc' := 54) rfl he6 ⟨Nat.le_refl _, Nat.le_refl _⟩ hmo ?_
      exact h
theorem wp_X9_liveFrom_54 {X : e_X} {d gn : Nat} {o : e_O} (M : e_M) (p2 p3 p4 p5 v6 v7 : Int) (hmo : e_mn (557, gn, e_RF, M) o.2) (h : (∃ N1 : e_M, e_E X d YX3_passWeek [.inr (.inr 43)] (557, gn, e_RF, M) (.inl none, (557, gn, e_RF, N1)) ∧ e_G X (d + 1) YX9_liveFrom 33 [some (.inr (.inr 54)), some (.inr (.inr 36)), some (.inl p2), some (.inl p3), some (.inl p4), some (.inl p5), some (.inl v6), some (.inl (e_w (v7 + 1)))] [] (557, gn, e_RF, N1) o)) : e_G X (d + 1) YX9_liveFrom 54 [some (.inr (.inr 54)), some (.inr (.inr 36)), some (.inl p2), some (.inl p3), some (.inl p4), some (.inl p5), some (.inl v6), some (.inl v7)] [] (557, gn, e_RF, M) o := by
  refine e_r_aload_n (pc' := 55) (by decide) dX9_liveFrom_54 rfl rfl rfl ?_
  refine e_r_getr (k := 0) (q := 43) (pc' := 58) cl_9 rfl (Nat.le_of_ble_eq_true rfl) rfl rfl fl_RX9_16 rfl (Nat.le_of_ble_eq_true rfl) dX9_liveFrom_55 rfl ?_
  obtain ⟨N1, he2, h⟩ := h
  refine e_r_callV (a := 43) (av := []) (st := []) mqYX3_passWeek ml_RX9_39 cl_3 rfl (Nat.le_of_ble_eq_true rfl) (by simp [e_cat]) rfl rfl rfl dX9_liveFrom_58 (pc' := 61) rfl he2 ⟨Nat.le_refl _, Nat.le_refl _⟩ hmo ?_
  refine e_r_iinc (pc' := 64) (loc' := [some (.inr (.inr 54)), some (.inr (.inr 36)), some (.inl p2), some (.inl p3), some (.inl p4), some (.inl p5), some (.inl v6), some (.inl (e_w (v7 + 1)))]) dX9_liveFrom_61 rfl rfl rfl rfl rfl ?_
  refine e_r_goto (pc' := 33) dX9_liveFrom_64 rfl ?_
  exact h
theorem wp_X9_tradeAmong_0 {X : e_X} {d gn : Nat} {o : e_O} (M : e_M) (p1 p2 p3 : Int) (hmo : e_mn (557, gn, e_RF, M) o.2) (h : (∃ (r2 : Int) (N1 : e_M), e_E X d YX9_drawBelow [.inr (.inr 54), .inl p1] (557, gn, e_RF, M) (.inl (some (.inl r2)), (557, gn, e_RF, N1)) ∧ (∃ (r5 : Int) (N4 : e_M), e_E X d YX9_drawBelow [.inr (.inr 54), .inl 16] (557, gn, e_RF, N1) (.inl (some (.inl r5)), (557, gn, e_RF, N4)) ∧ ((p2 ≤ r5 → e_G X (d + 1) YX9_tradeAmong 39 [some (.inr (.inr 54)), some (.inl p1), some (.inl p2), some (.inl p3), some (.inl r2), none] [] (557, gn, e_RF, N4) o) ∧ (¬ (p2 ≤ r5) → (∃ (r10 : Int) (N9 : e_M), e_E X d YX3_buyOff [.inr (.inr 43), .inl r2] (557, gn, e_RF, N4) (.inl (some (.inl r10)), (557, gn, e_RF, N9)) ∧ ((r10 = 0 → e_G X (d + 1) YX9_tradeAmong 39 [some (.inr (.inr 54)), some (.inl p1), some (.inl p2), some (.inl p3), some (.inl r2), none] [] (557, gn, e_RF, N9) o) ∧ (¬ (r10 = 0) → e_G X (d + 1) YX9_tradeAmong 39 [some (.inr (.inr 54)), some (.inl p1), some (.inl p2), some (.inl p3), some (.inl r2), none] [] (557, gn, e_RF, (e_up N9 54 2 (e_w ((N9 54 2) + 1)))) o)))))))) : e_G X (d + 1) YX9_tradeAmong 0 [some (.inr (.inr 54)), some (.inl p1), some (.inl p2), some (.inl p3), none, none] [] (557, gn, e_RF, M) o := by
  refine e_r_aload_n (pc' := 1) (by decide) dX9_tradeAmong_0 rfl rfl rfl ?_
  refine e_r_iload_n (pc' := 2) dX9_tradeAmong_1 rfl rfl rfl ?_
  obtain ⟨r2, N1, he3, h⟩ := h
  refine e_r_callV (a := 54) (av := [.inl p1]) (st := []) mqYX9_drawBelow ml_RX9_42 cl_9 rfl (Nat.le_of_ble_eq_true rfl) (by simp [e_cat]) rfl rfl rfl dX9_tradeAmong_2 (pc' := 5) rfl he3 ⟨Nat.le_refl _, Nat.le_refl _⟩ hmo ?_
  refine e_r_istore (pc' := 7) (loc' := [some (.inr (.inr 54)), some (.inl p1), some (.inl p2), some (.inl p3), some (.inl r2), none]) dX9_tradeAmong_5 rfl rfl rfl rfl ?_
  refine e_r_aload_n (pc' := 8) (by decide) dX9_tradeAmong_7 rfl rfl rfl ?_
  refine e_r_bipush (pc' := 10) dX9_tradeAmong_8 rfl (by decide) ?_
  obtain ⟨r5, N4, he6, h⟩ := h
  refine e_r_callV (a := 54) (av := [.inl 16]) (st := []) mqYX9_drawBelow ml_RX9_42 cl_9 rfl (Nat.le_of_ble_eq_true rfl) (by simp [e_cat]) rfl rfl rfl dX9_tradeAmong_10 (pc' := 13) rfl he6 ⟨Nat.le_refl _, Nat.le_refl _⟩ hmo ?_
  refine e_r_iload_n (pc' := 14) dX9_tradeAmong_13 rfl rfl rfl ?_
  obtain ⟨ht7, hf8⟩ := h
  refine e_r_icmp_ge (tgt := 39) (pc' := 17) dX9_tradeAmong_14 rfl rfl (fun c => ?_) (fun c => ?_)
  · have h := ht7 c
    exact h
  · have h := hf8 c
    refine e_r_aload_n (pc' := 18) (by decide) dX9_tradeAmong_17 rfl rfl rfl ?_
    refine e_r_getr (k := 0) (q := 43) (pc' := 21) cl_9 rfl (Nat.le_of_ble_eq_true rfl) rfl rfl fl_RX9_16 rfl (Nat.le_of_ble_eq_true rfl) dX9_tradeAmong_18 rfl ?_
    refine e_r_iload (pc' := 23) dX9_tradeAmong_21 rfl rfl ?_
    obtain ⟨r10, N9, he11, h⟩ := h
    refine e_r_callV (a := 43) (av := [.inl r2]) (st := []) mqYX3_buyOff ml_RX9_46 cl_3 rfl (Nat.le_of_ble_eq_true rfl) (by simp [e_cat]) rfl rfl rfl dX9_tradeAmong_23 (pc' := 26) rfl he11 ⟨Nat.le_refl _, Nat.le_refl _⟩ hmo ?_
    obtain ⟨ht12, hf13⟩ := h
    refine e_r_if_eq (tgt := 39) (pc' := 29) dX9_tradeAmong_26 rfl rfl (fun c => ?_) (fun c => ?_)
    · have h := ht12 c
      exact h
    · have h := hf13 c
      refine e_r_aload_n (pc' := 30) (by decide) dX9_tradeAmong_29 rfl rfl rfl ?_
      refine e_r_dup (pc' := 31) rfl dX9_tradeAmong_30 rfl ?_
      refine e_r_geti (k := 2) (pc' := 34) cl_9 rfl (Nat.le_of_ble_eq_true rfl) rfl rfl fl_RX9_13 dX9_tradeAmong_31 rfl ?_
      refine e_r_iconst (pc' := 35) dX9_tradeAmong_34 rfl (by decide) ?_
      refine e_r_iadd (pc' := 36) dX9_tradeAmong_35 rfl ?_
      refine e_r_puti (k := 2) (pc' := 39) cl_9 rfl (Nat.le_of_ble_eq_true rfl) rfl rfl fl_RX9_13 rfl (by decide +kernel) dX9_tradeAmong_36 rfl ?_
      exact h
theorem wp_X9_tradeAmong_39 {X : e_X} {d gn : Nat} {o : e_O} (M : e_M) (p1 p2 p3 v4 : Int) (hmo : e_mn (557, gn, e_RF, M) o.2) (h : (∃ (r2 : Int) (N1 : e_M), e_E X d YX9_drawBelow [.inr (.inr 54), .inl p1] (557, gn, e_RF, M) (.inl (some (.inl r2)), (557, gn, e_RF, N1)) ∧ (∃ (r5 : Int) (N4 : e_M), e_E X d YX9_drawBelow [.inr (.inr 54), .inl 16] (557, gn, e_RF, N1) (.inl (some (.inl r5)), (557, gn, e_RF, N4)) ∧ ((p3 ≤ r5 → (o = (.inl none, (557, gn, e_RF, N4)))) ∧ (¬ (p3 ≤ r5) → (∃ (r10 : Int) (N9 : e_M), e_E X d YX3_sellBack [.inr (.inr 43), .inl r2] (557, gn, e_RF, N4) (.inl (some (.inl r10)), (557, gn, e_RF, N9)) ∧ (o = (.inl none, (557, gn, e_RF, N9))))))))) : e_G X (d + 1) YX9_tradeAmong 39 [some (.inr (.inr 54)), some (.inl p1), some (.inl p2), some (.inl p3), some (.inl v4), none] [] (557, gn, e_RF, M) o := by
  refine e_r_aload_n (pc' := 40) (by decide) dX9_tradeAmong_39 rfl rfl rfl ?_
  refine e_r_iload_n (pc' := 41) dX9_tradeAmong_40 rfl rfl rfl ?_
  obtain ⟨r2, N1, he3, h⟩ := h
  refine e_r_callV (a := 54) (av := [.inl p1]) (st := []) mqYX9_drawBelow ml_RX9_42 cl_9 rfl (Nat.le_of_ble_eq_true rfl) (by simp [e_cat]) rfl rfl rfl dX9_tradeAmong_41 (pc' := 44) rfl he3 ⟨Nat.le_refl _, Nat.le_refl _⟩ hmo ?_
  refine e_r_istore (pc' := 46) (loc' := [some (.inr (.inr 54)), some (.inl p1), some (.inl p2), some (.inl p3), some (.inl v4), some (.inl r2)]) dX9_tradeAmong_44 rfl rfl rfl rfl ?_
  refine e_r_aload_n (pc' := 47) (by decide) dX9_tradeAmong_46 rfl rfl rfl ?_
  refine e_r_bipush (pc' := 49) dX9_tradeAmong_47 rfl (by decide) ?_
  obtain ⟨r5, N4, he6, h⟩ := h
  refine e_r_callV (a := 54) (av := [.inl 16]) (st := []) mqYX9_drawBelow ml_RX9_42 cl_9 rfl (Nat.le_of_ble_eq_true rfl) (by simp [e_cat]) rfl rfl rfl dX9_tradeAmong_49 (pc' := 52) rfl he6 ⟨Nat.le_refl _, Nat.le_refl _⟩ hmo ?_
  refine e_r_iload_n (pc' := 53) dX9_tradeAmong_52 rfl rfl rfl ?_
  obtain ⟨ht7, hf8⟩ := h
  refine e_r_icmp_ge (tgt := 66) (pc' := 56) dX9_tradeAmong_53 rfl rfl (fun c => ?_) (fun c => ?_)
  · have h := ht7 c
    exact e_r_vret rfl dX9_tradeAmong_66 h
  · have h := hf8 c
    refine e_r_aload_n (pc' := 57) (by decide) dX9_tradeAmong_56 rfl rfl rfl ?_
    refine e_r_getr (k := 0) (q := 43) (pc' := 60) cl_9 rfl (Nat.le_of_ble_eq_true rfl) rfl rfl fl_RX9_16 rfl (Nat.le_of_ble_eq_true rfl) dX9_tradeAmong_57 rfl ?_
    refine e_r_iload (pc' := 62) dX9_tradeAmong_60 rfl rfl ?_
    obtain ⟨r10, N9, he11, h⟩ := h
    refine e_r_callV (a := 43) (av := [.inl r2]) (st := []) mqYX3_sellBack ml_RX9_50 cl_3 rfl (Nat.le_of_ble_eq_true rfl) (by simp [e_cat]) rfl rfl rfl dX9_tradeAmong_62 (pc' := 65) rfl he11 ⟨Nat.le_refl _, Nat.le_refl _⟩ hmo ?_
    refine e_r_pop (pc' := 66) rfl dX9_tradeAmong_65 rfl ?_
    exact e_r_vret rfl dX9_tradeAmong_66 h
theorem wp_X9_drawBelow_0 {X : e_X} {d gn : Nat} {o : e_O} (M : e_M) (p1 : Int) (h : ((p1 ≤ 0 → (o = (.inl (some (.inl 0)), (557, gn, e_RF, (e_up M 54 1 (e_w ((e_w ((M 54 1) * 1103515245)) + 12345))))))) ∧ (¬ (p1 ≤ 0) → (p1 ≠ 0 ∧ (o = (.inl (some (.inl (e_w (Int.tmod (e_and (e_ushr ((e_up M 54 1 (e_w ((e_w ((M 54 1) * 1103515245)) + 12345))) 54 1) 16) 32767) p1)))), (557, gn, e_RF, (e_up M 54 1 (e_w ((e_w ((M 54 1) * 1103515245)) + 12345)))))))))) : e_G X d YX9_drawBelow 0 [some (.inr (.inr 54)), some (.inl p1), none] [] (557, gn, e_RF, M) o := by
  refine e_r_aload_n (pc' := 1) (by decide) dX9_drawBelow_0 rfl rfl rfl ?_
  refine e_r_aload_n (pc' := 2) (by decide) dX9_drawBelow_1 rfl rfl rfl ?_
  refine e_r_geti (k := 1) (pc' := 5) cl_9 rfl (Nat.le_of_ble_eq_true rfl) rfl rfl fl_RX9_7 dX9_drawBelow_2 rfl ?_
  refine e_r_ldc (pc' := 7) (n := 1103515245) cst_RX9_53 dX9_drawBelow_5 rfl (by decide) ?_
  refine e_r_imul (pc' := 8) dX9_drawBelow_7 rfl ?_
  refine e_r_sipush (pc' := 11) dX9_drawBelow_8 rfl (by decide) ?_
  refine e_r_iadd (pc' := 12) dX9_drawBelow_11 rfl ?_
  refine e_r_puti (k := 1) (pc' := 15) cl_9 rfl (Nat.le_of_ble_eq_true rfl) rfl rfl fl_RX9_7 rfl (by decide +kernel) dX9_drawBelow_12 rfl ?_
  refine e_r_aload_n (pc' := 16) (by decide) dX9_drawBelow_15 rfl rfl rfl ?_
  refine e_r_geti (k := 1) (pc' := 19) cl_9 rfl (Nat.le_of_ble_eq_true rfl) rfl rfl fl_RX9_7 dX9_drawBelow_16 rfl ?_
  refine e_r_bipush (pc' := 21) dX9_drawBelow_19 rfl (by decide) ?_
  refine e_r_iushr (pc' := 22) dX9_drawBelow_21 rfl ?_
  refine e_r_sipush (pc' := 25) dX9_drawBelow_22 rfl (by decide) ?_
  refine e_r_iand (pc' := 26) dX9_drawBelow_25 rfl ?_
  refine e_r_istore_n (pc' := 27) (loc' := [some (.inr (.inr 54)), some (.inl p1), some (.inl (e_and (e_ushr ((e_up M 54 1 (e_w ((e_w ((M 54 1) * 1103515245)) + 12345))) 54 1) 16) 32767))]) dX9_drawBelow_26 rfl rfl rfl rfl rfl ?_
  refine e_r_iload_n (pc' := 28) dX9_drawBelow_27 rfl rfl rfl ?_
  obtain ⟨ht1, hf2⟩ := h
  refine e_r_if_le (tgt := 37) (pc' := 31) dX9_drawBelow_28 rfl rfl (fun c => ?_) (fun c => ?_)
  · have h := ht1 c
    refine e_r_iconst (pc' := 38) dX9_drawBelow_37 rfl (by decide) ?_
    exact e_r_iret (ty := .int) rfl (e_nI _) dX9_drawBelow_38 h
  · have h := hf2 c
    refine e_r_iload_n (pc' := 32) dX9_drawBelow_31 rfl rfl rfl ?_
    refine e_r_iload_n (pc' := 33) dX9_drawBelow_32 rfl rfl rfl ?_
    obtain ⟨hz3, h⟩ := h
    refine e_r_irem (pc' := 34) hz3 dX9_drawBelow_33 rfl ?_
    refine e_r_goto (pc' := 38) dX9_drawBelow_34 rfl ?_
    exact e_r_iret (ty := .int) rfl (e_nI _) dX9_drawBelow_38 h
