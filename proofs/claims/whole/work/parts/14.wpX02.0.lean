theorem wp_X2_drop_law_0 {X : e_X} {d gn : Nat} {o : e_O} (M : e_M) (h : (o = (.inl none, (557, gn, e_RF, (e_up M 20 1 0))))) : e_G X d YX2_drop 0 [some (.inr (.inr 20))] [] (557, gn, e_RF, M) o := by
  refine e_r_aload_n (pc' := 1) (by decide) dX2_drop_0 rfl rfl rfl ?_
  refine e_r_iconst (pc' := 2) dX2_drop_1 rfl (by decide) ?_
  refine e_r_puti (k := 1) (pc' := 5) cl_2 rfl (Nat.le_of_ble_eq_true rfl) rfl rfl fl_RX2_15 rfl (by decide +kernel) dX2_drop_2 rfl ?_
  exact e_r_vret rfl dX2_drop_5 h
theorem wp_X2_drop_lawDraft_0 {X : e_X} {d gn : Nat} {o : e_O} (M : e_M) (h : (o = (.inl none, (557, gn, e_RF, (e_up M 24 1 0))))) : e_G X d YX2_drop 0 [some (.inr (.inr 24))] [] (557, gn, e_RF, M) o := by
  refine e_r_aload_n (pc' := 1) (by decide) dX2_drop_0 rfl rfl rfl ?_
  refine e_r_iconst (pc' := 2) dX2_drop_1 rfl (by decide) ?_
  refine e_r_puti (k := 1) (pc' := 5) cl_2 rfl (Nat.le_of_ble_eq_true rfl) rfl rfl fl_RX2_15 rfl (by decide +kernel) dX2_drop_2 rfl ?_
  exact e_r_vret rfl dX2_drop_5 h
theorem wp_X2_copyFrom_law_0 {X : e_X} {d gn : Nat} {o : e_O} (M : e_M) (h : ((o = (.inl none, (557, gn, e_RF, (e_cp (e_up M 20 1 (M 24 1)) 25 0 21 0 150)))))) : e_G X (d + 1) YX2_copyFrom 0 [some (.inr (.inr 20)), some (.inr (.inr 24))] [] (557, gn, e_RF, M) o := by
  refine e_r_aload_n (pc' := 1) (by decide) dX2_copyFrom_0 rfl rfl rfl ?_
  refine e_r_aload_n (pc' := 2) (by decide) dX2_copyFrom_1 rfl rfl rfl ?_
  refine e_r_geti (k := 1) (pc' := 5) cl_2 rfl (Nat.le_of_ble_eq_true rfl) rfl rfl fl_RX2_15 dX2_copyFrom_2 rfl ?_
  refine e_r_puti (k := 1) (pc' := 8) cl_2 rfl (Nat.le_of_ble_eq_true rfl) rfl rfl fl_RX2_15 rfl (by decide +kernel) dX2_copyFrom_5 rfl ?_
  refine e_r_aload_n (pc' := 9) (by decide) dX2_copyFrom_8 rfl rfl rfl ?_
  refine e_r_getr (k := 0) (q := 25) (pc' := 12) cl_2 rfl (Nat.le_of_ble_eq_true rfl) rfl rfl fl_RX2_9 rfl (Nat.le_of_ble_eq_true rfl) dX2_copyFrom_9 rfl ?_
  refine e_r_iconst (pc' := 13) dX2_copyFrom_12 rfl (by decide) ?_
  refine e_r_aload_n (pc' := 14) (by decide) dX2_copyFrom_13 rfl rfl rfl ?_
  refine e_r_getr (k := 0) (q := 21) (pc' := 17) cl_2 rfl (Nat.le_of_ble_eq_true rfl) rfl rfl fl_RX2_9 rfl (Nat.le_of_ble_eq_true rfl) dX2_copyFrom_14 rfl ?_
  refine e_r_iconst (pc' := 18) dX2_copyFrom_17 rfl (by decide) ?_
  refine e_r_sipush (pc' := 21) dX2_copyFrom_18 rfl (by decide) ?_
  refine e_r_copy (pc' := 24) rfl rfl (Nat.le_of_ble_eq_true rfl) (Nat.le_of_ble_eq_true rfl) (by decide) (by decide) (by decide) (by decide) (by decide) lk_RX2_25 rfl dX2_copyFrom_21 rfl ?_
  exact e_r_vret rfl dX2_copyFrom_24 h
theorem wp_X2_readFrom_lawDraft_0 {X : e_X} {d gn : Nat} {o : e_O} (M : e_M) (hmo : e_mn (557, gn, e_RF, M) o.2) (h : (∃ N1 : e_M, e_E X d YX2_readSum [.inr (.inr 24), .inr (.inr 2), .inl 0] (557, gn, e_RF, (e_up M 24 1 0)) (.inl none, (557, gn, e_RF, N1)) ∧ (∃ N3 : e_M, e_E X d YX7_expectEnd [.inr (.inr 2)] (557, gn, e_RF, N1) (.inl none, (557, gn, e_RF, N3)) ∧ (o = (.inl none, (557, gn, e_RF, N3)))))) : e_G X (d + 1) YX2_readFrom 0 [some (.inr (.inr 24)), some (.inr (.inr 2))] [] (557, gn, e_RF, M) o := by
  refine e_r_aload_n (pc' := 1) (by decide) dX2_readFrom_0 rfl rfl rfl ?_
  refine e_r_iconst (pc' := 2) dX2_readFrom_1 rfl (by decide) ?_
  refine e_r_puti (k := 1) (pc' := 5) cl_2 rfl (Nat.le_of_ble_eq_true rfl) rfl rfl fl_RX2_15 rfl (by decide +kernel) dX2_readFrom_2 rfl ?_
  refine e_r_aload_n (pc' := 6) (by decide) dX2_readFrom_5 rfl rfl rfl ?_
  refine e_r_aload_n (pc' := 7) (by decide) dX2_readFrom_6 rfl rfl rfl ?_
  refine e_r_iconst (pc' := 8) dX2_readFrom_7 rfl (by decide) ?_
  obtain ⟨N1, he2, h⟩ := h
  refine e_r_callV (a := 24) (av := [.inr (.inr 2), .inl 0]) (st := []) mqYX2_readSum ml_RX2_31 cl_2 rfl (Nat.le_of_ble_eq_true rfl) (by simp [e_cat]) rfl rfl rfl dX2_readFrom_8 (pc' := 11) rfl he2 ⟨Nat.le_refl _, Nat.le_refl _⟩ hmo ?_
  refine e_r_aload_n (pc' := 12) (by decide) dX2_readFrom_11 rfl rfl rfl ?_
  obtain ⟨N3, he4, h⟩ := h
  refine e_r_callV (a := 2) (av := []) (st := []) mqYX7_expectEnd ml_RX2_35 cl_7 rfl (Nat.le_of_ble_eq_true rfl) (by simp [e_cat]) rfl rfl rfl dX2_readFrom_12 (pc' := 15) rfl he4 ⟨Nat.le_refl _, Nat.le_refl _⟩ hmo ?_
  exact e_r_vret rfl dX2_readFrom_15 h
theorem wp_X2_emit_law_0 {X : e_X} {d gn : Nat} {o : e_O} (M : e_M) (p1 : Int) (h : ((150 ≤ (M 20 1) → (o = (.inl none, (557, gn, e_RF, M)))) ∧ (¬ (150 ≤ (M 20 1)) → ((0 ≤ (M 20 1) ∧ (M 20 1) < 150) ∧ (o = (.inl none, (557, gn, e_RF, (e_up (e_up M 21 (M 20 1).toNat p1) 20 1 (e_w (((e_up M 21 (M 20 1).toNat p1) 20 1) + 1)))))))))) : e_G X d YX2_emit 0 [some (.inr (.inr 20)), some (.inl p1)] [] (557, gn, e_RF, M) o := by
  refine e_r_aload_n (pc' := 1) (by decide) dX2_emit_0 rfl rfl rfl ?_
  refine e_r_geti (k := 1) (pc' := 4) cl_2 rfl (Nat.le_of_ble_eq_true rfl) rfl rfl fl_RX2_15 dX2_emit_1 rfl ?_
  refine e_r_sipush (pc' := 7) dX2_emit_4 rfl (by decide) ?_
  obtain ⟨ht1, hf2⟩ := h
  refine e_r_icmp_ge (tgt := 30) (pc' := 10) dX2_emit_7 rfl rfl (fun c => ?_) (fun c => ?_)
  · have h := ht1 c
    exact e_r_vret rfl dX2_emit_30 h
  · have h := hf2 c
    refine e_r_aload_n (pc' := 11) (by decide) dX2_emit_10 rfl rfl rfl ?_
    refine e_r_getr (k := 0) (q := 21) (pc' := 14) cl_2 rfl (Nat.le_of_ble_eq_true rfl) rfl rfl fl_RX2_9 rfl (Nat.le_of_ble_eq_true rfl) dX2_emit_11 rfl ?_
    refine e_r_aload_n (pc' := 15) (by decide) dX2_emit_14 rfl rfl rfl ?_
    refine e_r_geti (k := 1) (pc' := 18) cl_2 rfl (Nat.le_of_ble_eq_true rfl) rfl rfl fl_RX2_15 dX2_emit_15 rfl ?_
    refine e_r_iload_n (pc' := 19) dX2_emit_18 rfl rfl rfl ?_
    obtain ⟨hb3, h⟩ := h
    refine e_r_iast (j9 := (M 20 1).toNat) (pc' := 20) rfl (Nat.le_of_ble_eq_true rfl) hb3.1 hb3.2 rfl dX2_emit_19 rfl ?_
    refine e_r_aload_n (pc' := 21) (by decide) dX2_emit_20 rfl rfl rfl ?_
    refine e_r_dup (pc' := 22) rfl dX2_emit_21 rfl ?_
    refine e_r_geti (k := 1) (pc' := 25) cl_2 rfl (Nat.le_of_ble_eq_true rfl) rfl rfl fl_RX2_15 dX2_emit_22 rfl ?_
    refine e_r_iconst (pc' := 26) dX2_emit_25 rfl (by decide) ?_
    refine e_r_iadd (pc' := 27) dX2_emit_26 rfl ?_
    refine e_r_puti (k := 1) (pc' := 30) cl_2 rfl (Nat.le_of_ble_eq_true rfl) rfl rfl fl_RX2_15 rfl (by decide +kernel) dX2_emit_27 rfl ?_
    exact e_r_vret rfl dX2_emit_30 h
theorem wp_X2_emit_lawDraft_0 {X : e_X} {d gn : Nat} {o : e_O} (M : e_M) (p1 : Int) (h : ((150 ≤ (M 24 1) → (o = (.inl none, (557, gn, e_RF, M)))) ∧ (¬ (150 ≤ (M 24 1)) → ((0 ≤ (M 24 1) ∧ (M 24 1) < 150) ∧ (o = (.inl none, (557, gn, e_RF, (e_up (e_up M 25 (M 24 1).toNat p1) 24 1 (e_w (((e_up M 25 (M 24 1).toNat p1) 24 1) + 1)))))))))) : e_G X d YX2_emit 0 [some (.inr (.inr 24)), some (.inl p1)] [] (557, gn, e_RF, M) o := by
  refine e_r_aload_n (pc' := 1) (by decide) dX2_emit_0 rfl rfl rfl ?_
  refine e_r_geti (k := 1) (pc' := 4) cl_2 rfl (Nat.le_of_ble_eq_true rfl) rfl rfl fl_RX2_15 dX2_emit_1 rfl ?_
  refine e_r_sipush (pc' := 7) dX2_emit_4 rfl (by decide) ?_
  obtain ⟨ht1, hf2⟩ := h
  refine e_r_icmp_ge (tgt := 30) (pc' := 10) dX2_emit_7 rfl rfl (fun c => ?_) (fun c => ?_)
  · have h := ht1 c
    exact e_r_vret rfl dX2_emit_30 h
  · have h := hf2 c
    refine e_r_aload_n (pc' := 11) (by decide) dX2_emit_10 rfl rfl rfl ?_
    refine e_r_getr (k := 0) (q := 25) (pc' := 14) cl_2 rfl (Nat.le_of_ble_eq_true rfl) rfl rfl fl_RX2_9 rfl (Nat.le_of_ble_eq_true rfl) dX2_emit_11 rfl ?_
    refine e_r_aload_n (pc' := 15) (by decide) dX2_emit_14 rfl rfl rfl ?_
    refine e_r_geti (k := 1) (pc' := 18) cl_2 rfl (Nat.le_of_ble_eq_true rfl) rfl rfl fl_RX2_15 dX2_emit_15 rfl ?_
    refine e_r_iload_n (pc' := 19) dX2_emit_18 rfl rfl rfl ?_
    obtain ⟨hb3, h⟩ := h
    refine e_r_iast (j9 := (M 24 1).toNat) (pc' := 20) rfl (Nat.le_of_ble_eq_true rfl) hb3.1 hb3.2 rfl dX2_emit_19 rfl ?_
    refine e_r_aload_n (pc' := 21) (by decide) dX2_emit_20 rfl rfl rfl ?_
    refine e_r_dup (pc' := 22) rfl dX2_emit_21 rfl ?_
    refine e_r_geti (k := 1) (pc' := 25) cl_2 rfl (Nat.le_of_ble_eq_true rfl) rfl rfl fl_RX2_15 dX2_emit_22 rfl ?_
    refine e_r_iconst (pc' := 26) dX2_emit_25 rfl (by decide) ?_
    refine e_r_iadd (pc' := 27) dX2_emit_26 rfl ?_
    refine e_r_puti (k := 1) (pc' := 30) cl_2 rfl (Nat.le_of_ble_eq_true rfl) rfl rfl fl_RX2_15 rfl (by decide +kernel) dX2_emit_27 rfl ?_
    exact e_r_vret rfl dX2_emit_30 h
theorem wp_X2_readSum_0 {X : e_X} {d gn : Nat} {o : e_O} (M : e_M) (p2 : Int) (hmo : e_mn (557, gn, e_RF, M) o.2) (h : (∃ N1 : e_M, e_E X d YX2_readProduct [.inr (.inr 24), .inr (.inr 2), .inl p2] (557, gn, e_RF, M) (.inl none, (557, gn, e_RF, N1)) ∧ e_G X (d + 1) YX2_readSum 8 [some (.inr (.inr 24)), some (.inr (.inr 2)), some (.inl p2), some (.inl 0), none] [] (557, gn, e_RF, N1) o)) : e_G X (d + 1) YX2_readSum 0 [some (.inr (.inr 24)), some (.inr (.inr 2)), some (.inl p2), none, none] [] (557, gn, e_RF, M) o := by
  refine e_r_aload_n (pc' := 1) (by decide) dX2_readSum_0 rfl rfl rfl ?_
  refine e_r_aload_n (pc' := 2) (by decide) dX2_readSum_1 rfl rfl rfl ?_
  refine e_r_iload_n (pc' := 3) dX2_readSum_2 rfl rfl rfl ?_
  obtain ⟨N1, he2, h⟩ := h
  refine e_r_callV (a := 24) (av := [.inr (.inr 2), .inl p2]) (st := []) mqYX2_readProduct ml_RX2_40 cl_2 rfl (Nat.le_of_ble_eq_true rfl) (by simp [e_cat]) rfl rfl rfl dX2_readSum_3 (pc' := 6) rfl he2 ⟨Nat.le_refl _, Nat.le_refl _⟩ hmo ?_
  refine e_r_iconst (pc' := 7) dX2_readSum_6 rfl (by decide) ?_
  refine e_r_istore_n (pc' := 8) (loc' := [some (.inr (.inr 24)), some (.inr (.inr 2)), some (.inl p2), some (.inl 0), none]) dX2_readSum_7 rfl rfl rfl rfl rfl ?_
  exact h
theorem wp_X2_readSum_8 {X : e_X} {d gn : Nat} {o : e_O} (M : e_M) (p2 v3 : Int) (hmo : e_mn (557, gn, e_RF, M) o.2) (h : ((150 ≤ v3 → (o = (.inl none, (557, gn, e_RF, M)))) ∧ (¬ (150 ≤ v3) → (∃ (r4 : Int) (N3 : e_M), e_E X d YX7_flawed [.inr (.inr 2)] (557, gn, e_RF, M) (.inl (some (.inl r4)), (557, gn, e_RF, N3)) ∧ ((¬ r4 = 0 → (o = (.inl none, (557, gn, e_RF, N3)))) ∧ (r4 = 0 → (∃ (r9 : Int) (N8 : e_M), e_E X d YX7_takeSign [.inr (.inr 2), .inl 43] (557, gn, e_RF, N3) (.inl (some (.inl r9)), (557, gn, e_RF, N8)) ∧ ((r9 = 0 → (∃ (r14 : Int) (N13 : e_M), e_E X d YX7_takeSign [.inr (.inr 2), .inl 45] (557, gn, e_RF, N8) (.inl (some (.inl r14)), (557, gn, e_RF, N13)) ∧ ((r14 = 0 → e_G X (d + 1) YX2_readSum 53 [some (.inr (.inr 24)), some (.inr (.inr 2)), some (.inl p2), some (.inl v3), none] [.inl (-1)] (557, gn, e_RF, N13) o) ∧ (¬ (r14 = 0) → e_G X (d + 1) YX2_readSum 53 [some (.inr (.inr 24)), some (.inr (.inr 2)), some (.inl p2), some (.inl v3), none] [.inl 2001] (557, gn, e_RF, N13) o)))) ∧ (¬ (r9 = 0) → e_G X (d + 1) YX2_readSum 53 [some (.inr (.inr 24)), some (.inr (.inr 2)), some (.inl p2), some (.inl v3), none] [.inl 2000] (557, gn, e_RF, N8) o))))))))) : e_G X (d + 1) YX2_readSum 8 [some (.inr (.inr 24)), some (.inr (.inr 2)), some (.inl p2), some (.inl v3), none] [] (557, gn, e_RF, M) o := by
  refine e_r_iload_n (pc' := 9) dX2_readSum_8 rfl rfl rfl ?_
  refine e_r_sipush (pc' := 12) dX2_readSum_9 rfl (by decide) ?_
  obtain ⟨ht1, hf2⟩ := h
  refine e_r_icmp_ge (tgt := 80) (pc' := 15) dX2_readSum_12 rfl rfl (fun c => ?_) (fun c => ?_)
  · have h := ht1 c
    exact e_r_vret rfl dX2_readSum_80 h
  · have h := hf2 c
    refine e_r_aload_n (pc' := 16) (by decide) dX2_readSum_15 rfl rfl rfl ?_
    obtain ⟨r4, N3, he5, h⟩ := h
    refine e_r_callV (a := 2) (av := []) (st := []) mqYX7_flawed ml_RX2_43 cl_7 rfl (Nat.le_of_ble_eq_true rfl) (by simp [e_cat]) rfl rfl rfl dX2_readSum_16 (pc' := 19) rfl he5 ⟨Nat.le_refl _, Nat.le_refl _⟩ hmo ?_
    obtain ⟨ht6, hf7⟩ := h
    refine e_r_if_ne (tgt := 80) (pc' := 22) dX2_readSum_19 rfl rfl (fun c => ?_) (fun c => ?_)
    · have h := ht6 c
      exact e_r_vret rfl dX2_readSum_80 h
    · have h := hf7 c
      refine e_r_aload_n (pc' := 23) (by decide) dX2_readSum_22 rfl rfl rfl ?_
      refine e_r_bipush (pc' := 25) dX2_readSum_23 rfl (by decide) ?_
      obtain ⟨r9, N8, he10, h⟩ := h
      refine e_r_callV (a := 2) (av := [.inl 43]) (st := []) mqYX7_takeSign ml_RX2_47 cl_7 rfl (Nat.le_of_ble_eq_true rfl) (by simp [e_cat]) rfl rfl rfl dX2_readSum_25 (pc' := 28) rfl he10 ⟨Nat.le_refl _, Nat.le_refl _⟩ hmo ?_
      obtain ⟨ht11, hf12⟩ := h
      refine e_r_if_eq (tgt := 37) (pc' := 31) dX2_readSum_28 rfl rfl (fun c => ?_) (fun c => ?_)
      · have h := ht11 c
        refine e_r_aload_n (pc' := 38) (by decide) dX2_readSum_37 rfl rfl rfl ?_
        refine e_r_bipush (pc' := 40) dX2_readSum_38 rfl (by decide) ?_
        obtain ⟨r14, N13, he15, h⟩ := h
        refine e_r_callV (a := 2) (av := [.inl 45]) (st := []) mqYX7_takeSign ml_RX2_47 cl_7 rfl (Nat.le_of_ble_eq_true rfl) (by simp [e_cat]) rfl rfl rfl dX2_readSum_40 (pc' := 43) rfl he15 ⟨Nat.le_refl _, Nat.le_refl _⟩ hmo ?_
        obtain ⟨ht16, hf17⟩ := h
        refine e_r_if_eq (tgt := 52) (pc' := 46) dX2_readSum_43 rfl rfl (fun c => ?_) (fun c => ?_)
        · have h := ht16 c
          refine e_r_iconst (pc' := 53) dX2_readSum_52 rfl (by decide) ?_
          exact h
        · have h := hf17 c
          refine e_r_sipush (pc' := 49) dX2_readSum_46 rfl (by decide) ?_
          refine e_r_goto (pc' := 53) dX2_readSum_49 rfl ?_
          exact h
      · have h := hf12 c
        refine e_r_sipush (pc' := 34) dX2_readSum_31 rfl (by decide) ?_
        refine e_r_goto (pc' := 53) dX2_readSum_34 rfl ?_
        exact h
theorem wp_X2_readSum_53 {X : e_X} {d gn : Nat} {o : e_O} (M : e_M) (p2 v3 w0 : Int) (hmo : e_mn (557, gn, e_RF, M) o.2) (h : ((¬ w0 = (-1) → (∃ N3 : e_M, e_E X d YX2_readProduct [.inr (.inr 24), .inr (.inr 2), .inl p2] (557, gn, e_RF, M) (.inl none, (557, gn, e_RF, N3)) ∧ (∃ N5 : e_M, e_E X d YX2_emit [.inr (.inr 24), .inl w0] (557, gn, e_RF, N3) (.inl none, (557, gn, e_RF, N5)) ∧ e_G X (d + 1) YX2_readSum 8 [some (.inr (.inr 24)), some (.inr (.inr 2)), some (.inl p2), some (.inl (e_w (v3 + 1))), none] [] (557, gn, e_RF, N5) o))) ∧ (w0 = (-1) → (o = (.inl none, (557, gn, e_RF, M)))))) : e_G X (d + 1) YX2_readSum 53 [some (.inr (.inr 24)), some (.inr (.inr 2)), some (.inl p2), some (.inl v3), none] [.inl w0] (557, gn, e_RF, M) o := by
  refine e_r_istore (pc' := 55) (loc' := [some (.inr (.inr 24)), some (.inr (.inr 2)), some (.inl p2), some (.inl v3), some (.inl w0)]) dX2_readSum_53 rfl rfl rfl rfl ?_
  refine e_r_iload (pc' := 57) dX2_readSum_55 rfl rfl ?_
  refine e_r_iconst (pc' := 58) dX2_readSum_57 rfl (by decide) ?_
  obtain ⟨ht1, hf2⟩ := h
  refine e_r_icmp_ne (tgt := 62) (pc' := 61) dX2_readSum_58 rfl rfl (fun c => ?_) (fun c => ?_)
  · have h := ht1 c
    refine e_r_aload_n (pc' := 63) (by decide) dX2_readSum_62 rfl rfl rfl ?_
    refine e_r_aload_n (pc' := 64) (by decide) dX2_readSum_63 rfl rfl rfl ?_
    refine e_r_iload_n (pc' := 65) dX2_readSum_64 rfl rfl rfl ?_
    obtain ⟨N3, he4, h⟩ := h
    refine e_r_callV (a := 24) (av := [.inr (.inr 2), .inl p2]) (st := []) mqYX2_readProduct ml_RX2_40 cl_2 rfl (Nat.le_of_ble_eq_true rfl) (by simp [e_cat]) rfl rfl rfl dX2_readSum_65 (pc' := 68) rfl he4 ⟨Nat.le_refl _, Nat.le_refl _⟩ hmo ?_
    refine e_r_aload_n (pc' := 69) (by decide) dX2_readSum_68 rfl rfl rfl ?_
    refine e_r_iload (pc' := 71) dX2_readSum_69 rfl rfl ?_
    obtain ⟨N5, he6, h⟩ := h
    refine e_r_callV (a := 24) (av := [.inl w0]) (st := []) mqYX2_emit ml_RX2_51 cl_2 rfl (Nat.le_of_ble_eq_true rfl) (by simp [e_cat]) rfl rfl rfl dX2_readSum_71 (pc' := 74) rfl he6 ⟨Nat.le_refl _, Nat.le_refl _⟩ hmo ?_
    refine e_r_iinc (pc' := 77) (loc' := [some (.inr (.inr 24)), some (.inr (.inr 2)), some (.inl p2), some (.inl (e_w (v3 + 1))), some (.inl w0)]) dX2_readSum_74 rfl rfl rfl rfl rfl ?_
    refine e_r_goto (pc' := 8) dX2_readSum_77 rfl ?_
    exact e_forget (m := [true, true, true, true, false]) h rfl
  · have h := hf2 c
    exact e_r_vret rfl dX2_readSum_61 h
theorem wp_X2_readProduct_0 {X : e_X} {d gn : Nat} {o : e_O} (M : e_M) (p2 : Int) (hmo : e_mn (557, gn, e_RF, M) o.2) (h : (∃ N1 : e_M, e_E X d YX2_readUnit [.inr (.inr 24), .inr (.inr 2), .inl p2] (557, gn, e_RF, M) (.inl none, (557, gn, e_RF, N1)) ∧ e_G X (d + 1) YX2_readProduct 8 [some (.inr (.inr 24)), some (.inr (.inr 2)), some (.inl p2), some (.inl 0), none] [] (557, gn, e_RF, N1) o)) : e_G X (d + 1) YX2_readProduct 0 [some (.inr (.inr 24)), some (.inr (.inr 2)), some (.inl p2), none, none] [] (557, gn, e_RF, M) o := by
  refine e_r_aload_n (pc' := 1) (by decide) dX2_readProduct_0 rfl rfl rfl ?_
  refine e_r_aload_n (pc' := 2) (by decide) dX2_readProduct_1 rfl rfl rfl ?_
  refine e_r_iload_n (pc' := 3) dX2_readProduct_2 rfl rfl rfl ?_
  obtain ⟨N1, he2, h⟩ := h
  refine e_r_callV (a := 24) (av := [.inr (.inr 2), .inl p2]) (st := []) mqYX2_readUnit ml_RX2_55 cl_2 rfl (Nat.le_of_ble_eq_true rfl) (by simp [e_cat]) rfl rfl rfl dX2_readProduct_3 (pc' := 6) rfl he2 ⟨Nat.le_refl _, Nat.le_refl _⟩ hmo ?_
  refine e_r_iconst (pc' := 7) dX2_readProduct_6 rfl (by decide) ?_
  refine e_r_istore_n (pc' := 8) (loc' := [some (.inr (.inr 24)), some (.inr (.inr 2)), some (.inl p2), some (.inl 0), none]) dX2_readProduct_7 rfl rfl rfl rfl rfl ?_
  exact h
theorem wp_X2_readProduct_8 {X : e_X} {d gn : Nat} {o : e_O} (M : e_M) (p2 v3 : Int) (hmo : e_mn (557, gn, e_RF, M) o.2) (h : ((150 ≤ v3 → (o = (.inl none, (557, gn, e_RF, M)))) ∧ (¬ (150 ≤ v3) → (∃ (r4 : Int) (N3 : e_M), e_E X d YX7_flawed [.inr (.inr 2)] (557, gn, e_RF, M) (.inl (some (.inl r4)), (557, gn, e_RF, N3)) ∧ ((¬ r4 = 0 → (o = (.inl none, (557, gn, e_RF, N3)))) ∧ (r4 = 0 → (∃ (r9 : Int) (N8 : e_M), e_E X d YX7_takeSign [.inr (.inr 2), .inl 42] (557, gn, e_RF, N3) (.inl (some (.inl r9)), (557, gn, e_RF, N8)) ∧ ((r9 = 0 → (∃ (r14 : Int) (N13 : e_M), e_E X d YX7_takeSign [.inr (.inr 2), .inl 47] (557, gn, e_RF, N8) (.inl (some (.inl r14)), (557, gn, e_RF, N13)) ∧ ((r14 = 0 → (∃ (r19 : Int) (N18 : e_M), e_E X d YX7_takeSign [.inr (.inr 2), .inl 37] (557, gn, e_RF, N13) (.inl (some (.inl r19)), (557, gn, e_RF, N18)) ∧ ((r19 = 0 → e_G X (d + 1) YX2_readProduct 68 [some (.inr (.inr 24)), some (.inr (.inr 2)), some (.inl p2), some (.inl v3), none] [.inl (-1)] (557, gn, e_RF, N18) o) ∧ (¬ (r19 = 0) → e_G X (d + 1) YX2_readProduct 68 [some (.inr (.inr 24)), some (.inr (.inr 2)), some (.inl p2), some (.inl v3), none] [.inl 2004] (557, gn, e_RF, N18) o)))) ∧ (¬ (r14 = 0) → e_G X (d + 1) YX2_readProduct 68 [some (.inr (.inr 24)), some (.inr (.inr 2)), some (.inl p2), some (.inl v3), none] [.inl 2003] (557, gn, e_RF, N13) o)))) ∧ (¬ (r9 = 0) → e_G X (d + 1) YX2_readProduct 68 [some (.inr (.inr 24)), some (.inr (.inr 2)), some (.inl p2), some (.inl v3), none] [.inl 2002] (557, gn, e_RF, N8) o))))))))) : e_G X (d + 1) YX2_readProduct 8 [some (.inr (.inr 24)), some (.inr (.inr 2)), some (.inl p2), some (.inl v3), none] [] (557, gn, e_RF, M) o := by
  refine e_r_iload_n (pc' := 9) dX2_readProduct_8 rfl rfl rfl ?_
  refine e_r_sipush (pc' := 12) dX2_readProduct_9 rfl (by decide) ?_
  obtain ⟨ht1, hf2⟩ := h
  refine e_r_icmp_ge (tgt := 95) (pc' := 15) dX2_readProduct_12 rfl rfl (fun c => ?_) (fun c => ?_)
  · have h := ht1 c
    exact e_r_vret rfl dX2_readProduct_95 h
  · have h := hf2 c
    refine e_r_aload_n (pc' := 16) (by decide) dX2_readProduct_15 rfl rfl rfl ?_
    obtain ⟨r4, N3, he5, h⟩ := h
    refine e_r_callV (a := 2) (av := []) (st := []) mqYX7_flawed ml_RX2_43 cl_7 rfl (Nat.le_of_ble_eq_true rfl) (by simp [e_cat]) rfl rfl rfl dX2_readProduct_16 (pc' := 19) rfl he5 ⟨Nat.le_refl _, Nat.le_refl _⟩ hmo ?_
    obtain ⟨ht6, hf7⟩ := h
    refine e_r_if_ne (tgt := 95) (pc' := 22) dX2_readProduct_19 rfl rfl (fun c => ?_) (fun c => ?_)
    · have h := ht6 c
      exact e_r_vret rfl dX2_readProduct_95 h
    · have h := hf7 c
      refine e_r_aload_n (pc' := 23) (by decide) dX2_readProduct_22 rfl rfl rfl ?_
      refine e_r_bipush (pc' := 25) dX2_readProduct_23 rfl (by decide) ?_
      obtain ⟨r9, N8, he10, h⟩ := h
      refine e_r_callV (a := 2) (av := [.inl 42]) (st := []) mqYX7_takeSign ml_RX2_47 cl_7 rfl (Nat.le_of_ble_eq_true rfl) (by simp [e_cat]) rfl rfl rfl dX2_readProduct_25 (pc' := 28) rfl he10 ⟨Nat.le_refl _, Nat.le_refl _⟩ hmo ?_
      obtain ⟨ht11, hf12⟩ := h
      refine e_r_if_eq (tgt := 37) (pc' := 31) dX2_readProduct_28 rfl rfl (fun c => ?_) (fun c => ?_)
      · have h := ht11 c
        refine e_r_aload_n (pc' := 38) (by decide) dX2_readProduct_37 rfl rfl rfl ?_
        refine e_r_bipush (pc' := 40) dX2_readProduct_38 rfl (by decide) ?_
        obtain ⟨r14, N13, he15, h⟩ := h
        refine e_r_callV (a := 2) (av := [.inl 47]) (st := []) mqYX7_takeSign ml_RX2_47 cl_7 rfl (Nat.le_of_ble_eq_true rfl) (by simp [e_cat]) rfl rfl rfl dX2_readProduct_40 (pc' := 43) rfl he15 ⟨Nat.le_refl _, Nat.le_refl _⟩ hmo ?_
        obtain ⟨ht16, hf17⟩ := h
        refine e_r_if_eq (tgt := 52) (pc' := 46) dX2_readProduct_43 rfl rfl (fun c => ?_) (fun c => ?_)
        · have h := ht16 c
          refine e_r_aload_n (pc' := 53) (by decide) dX2_readProduct_52 rfl rfl rfl ?_
          refine e_r_bipush (pc' := 55) dX2_readProduct_53 rfl (by decide) ?_
          obtain ⟨r19, N18, he20, h⟩ := h
          refine e_r_callV (a := 2) (av := [.inl 37]) (st := []) mqYX7_takeSign ml_RX2_47 cl_7 rfl (Nat.le_of_ble_eq_true rfl) (by simp [e_cat]) rfl rfl rfl dX2_readProduct_55 (pc' := 58) rfl he20 ⟨Nat.le_refl _, Nat.le_refl _⟩ hmo ?_
          obtain ⟨ht21, hf22⟩ := h
          refine e_r_if_eq (tgt := 67) (pc' := 61) dX2_readProduct_58 rfl rfl (fun c => ?_) (fun c => ?_)
          · have h := ht21 c
            refine e_r_iconst (pc' := 68) dX2_readProduct_67 rfl (by decide) ?_
            exact h
          · have h := hf22 c
            refine e_r_sipush (pc' := 64) dX2_readProduct_61 rfl (by decide) ?_
            refine e_r_goto (pc' := 68) dX2_readProduct_64 rfl ?_
            exact h
        · have h := hf17 c
          refine e_r_sipush (pc' := 49) dX2_readProduct_46 rfl (by decide) ?_
          refine e_r_goto (pc' := 68) dX2_readProduct_49 rfl ?_
          exact h
      · have h := hf12 c
        refine e_r_sipush (pc' := 34) dX2_readProduct_31 rfl (by decide) ?_
        refine e_r_goto (pc' := 68) dX2_readProduct_34 rfl ?_
        exact h
theorem wp_X2_readProduct_68 {X : e_X} {d gn : Nat} {o : e_O} (M : e_M) (p2 v3 w0 : Int) (hmo : e_mn (557, gn, e_RF, M) o.2) (h : ((¬ w0 = (-1) → (∃ N3 : e_M, e_E X d YX2_readUnit [.inr (.inr 24), .inr (.inr 2), .inl p2] (557, gn, e_RF, M) (.inl none, (557, gn, e_RF, N3)) ∧ (∃ N5 : e_M, e_E X d YX2_emit [.inr (.inr 24), .inl w0] (557, gn, e_RF, N3) (.inl none, (557, gn, e_RF, N5)) ∧ e_G X (d + 1) YX2_readProduct 8 [some (.inr (.inr 24)), some (.inr (.inr 2)), some (.inl p2), some (.inl (e_w (v3 + 1))), none] [] (557, gn, e_RF, N5) o))) ∧ (w0 = (-1) → (o = (.inl none, (557, gn, e_RF, M)))))) : e_G X (d + 1) YX2_readProduct 68 [some (.inr (.inr 24)), some (.inr (.inr 2)), some (.inl p2), some (.inl v3), none] [.inl w0] (557, gn, e_RF, M) o := by
  refine e_r_istore (pc' := 70) (loc' := [some (.inr (.inr 24)), some (.inr (.inr 2)), some (.inl p2), some (.inl v3), some (.inl w0)]) dX2_readProduct_68 rfl rfl rfl rfl ?_
  refine e_r_iload (pc' := 72) dX2_readProduct_70 rfl rfl ?_
  refine e_r_iconst (pc' := 73) dX2_readProduct_72 rfl (by decide) ?_
  obtain ⟨ht1, hf2⟩ := h
  refine e_r_icmp_ne (tgt := 77) (pc' := 76) dX2_readProduct_73 rfl rfl (fun c => ?_) (fun c => ?_)
  · have h := ht1 c
    refine e_r_aload_n (pc' := 78) (by decide) dX2_readProduct_77 rfl rfl rfl ?_
    refine e_r_aload_n (pc' := 79) (by decide) dX2_readProduct_78 rfl rfl rfl ?_
    refine e_r_iload_n (pc' := 80) dX2_readProduct_79 rfl rfl rfl ?_
    obtain ⟨N3, he4, h⟩ := h
    refine e_r_callV (a := 24) (av := [.inr (.inr 2), .inl p2]) (st := []) mqYX2_readUnit ml_RX2_55 cl_2 rfl (Nat.le_of_ble_eq_true rfl) (by simp [e_cat]) rfl rfl rfl dX2_readProduct_80 (pc' := 83) rfl he4 ⟨Nat.le_refl _, Nat.le_refl _⟩ hmo ?_
    refine e_r_aload_n (pc' := 84) (by decide) dX2_readProduct_83 rfl rfl rfl ?_
    refine e_r_iload (pc' := 86) dX2_readProduct_84 rfl rfl ?_
    obtain ⟨N5, he6, h⟩ := h
    refine e_r_callV (a := 24) (av := [.inl w0]) (st := []) mqYX2_emit ml_RX2_51 cl_2 rfl (Nat.le_of_ble_eq_true rfl) (by simp [e_cat]) rfl rfl rfl dX2_readProduct_86 (pc' := 89) rfl he6 ⟨Nat.le_refl _, Nat.le_refl _⟩ hmo ?_
    refine e_r_iinc (pc' := 92) (loc' := [some (.inr (.inr 24)), some (.inr (.inr 2)), some (.inl p2), some (.inl (e_w (v3 + 1))), some (.inl w0)]) dX2_readProduct_89 rfl rfl rfl rfl rfl ?_
    refine e_r_goto (pc' := 8) dX2_readProduct_92 rfl ?_
    exact e_forget (m := [true, true, true, true, false]) h rfl
  · have h := hf2 c
    exact e_r_vret rfl dX2_readProduct_76 h
theorem wp_X2_readUnit_0 {X : e_X} {d gn : Nat} {o : e_O} (M : e_M) (p2 : Int) (hmo : e_mn (557, gn, e_RF, M) o.2) (h : (∃ (r2 : Int) (N1 : e_M), e_E X d YX7_flawed [.inr (.inr 2)] (557, gn, e_RF, M) (.inl (some (.inl r2)), (557, gn, e_RF, N1)) ∧ ((r2 = 0 → (∃ (r7 : Int) (N6 : e_M), e_E X d YX7_atDigit [.inr (.inr 2)] (557, gn, e_RF, N1) (.inl (some (.inl r7)), (557, gn, e_RF, N6)) ∧ ((r7 = 0 → (∃ (r12 : Int) (N11 : e_M), e_E X d YX7_peekSign [.inr (.inr 2)] (557, gn, e_RF, N6) (.inl (some (.inl r12)), (557, gn, e_RF, N11)) ∧ ((¬ r12 = 40 → (∃ N16 : e_M, e_E X d YX2_readName [.inr (.inr 24), .inr (.inr 2), .inl p2] (557, gn, e_RF, N11) (.inl none, (557, gn, e_RF, N16)) ∧ (o = (.inl none, (557, gn, e_RF, N16))))) ∧ (r12 = 40 → (∃ N18 : e_M, e_E X d YX2_readBracket [.inr (.inr 24), .inr (.inr 2), .inl p2] (557, gn, e_RF, N11) (.inl none, (557, gn, e_RF, N18)) ∧ (o = (.inl none, (557, gn, e_RF, N18)))))))) ∧ (¬ (r7 = 0) → (∃ (r21 : Int) (N20 : e_M), e_E X d YX7_readNumber [.inr (.inr 2), .inl 0, .inl 999] (557, gn, e_RF, N6) (.inl (some (.inl r21)), (557, gn, e_RF, N20)) ∧ (∃ N23 : e_M, e_E X d YX2_emit [.inr (.inr 24), .inl r21] (557, gn, e_RF, N20) (.inl none, (557, gn, e_RF, N23)) ∧ (o = (.inl none, (557, gn, e_RF, N23))))))))) ∧ (¬ (r2 = 0) → (o = (.inl none, (557, gn, e_RF, N1))))))) : e_G X (d + 1) YX2_readUnit 0 [some (.inr (.inr 24)), some (.inr (.inr 2)), some (.inl p2)] [] (557, gn, e_RF, M) o := by
  refine e_r_aload_n (pc' := 1) (by decide) dX2_readUnit_0 rfl rfl rfl ?_
  obtain ⟨r2, N1, he3, h⟩ := h
  refine e_r_callV (a := 2) (av := []) (st := []) mqYX7_flawed ml_RX2_43 cl_7 rfl (Nat.le_of_ble_eq_true rfl) (by simp [e_cat]) rfl rfl rfl dX2_readUnit_1 (pc' := 4) rfl he3 ⟨Nat.le_refl _, Nat.le_refl _⟩ hmo ?_
  obtain ⟨ht4, hf5⟩ := h
  refine e_r_if_eq (tgt := 8) (pc' := 7) dX2_readUnit_4 rfl rfl (fun c => ?_) (fun c => ?_)
  · have h := ht4 c
    refine e_r_aload_n (pc' := 9) (by decide) dX2_readUnit_8 rfl rfl rfl ?_
    obtain ⟨r7, N6, he8, h⟩ := h
    refine e_r_callV (a := 2) (av := []) (st := []) mqYX7_atDigit ml_RX2_58 cl_7 rfl (Nat.le_of_ble_eq_true rfl) (by simp [e_cat]) rfl rfl rfl dX2_readUnit_9 (pc' := 12) rfl he8 ⟨Nat.le_refl _, Nat.le_refl _⟩ hmo ?_
    obtain ⟨ht9, hf10⟩ := h
    refine e_r_if_eq (tgt := 30) (pc' := 15) dX2_readUnit_12 rfl rfl (fun c => ?_) (fun c => ?_)
    · have h := ht9 c
      refine e_r_aload_n (pc' := 31) (by decide) dX2_readUnit_30 rfl rfl rfl ?_
      obtain ⟨r12, N11, he13, h⟩ := h
      refine e_r_callV (a := 2) (av := []) (st := []) mqYX7_peekSign ml_RX2_65 cl_7 rfl (Nat.le_of_ble_eq_true rfl) (by simp [e_cat]) rfl rfl rfl dX2_readUnit_31 (pc' := 34) rfl he13 ⟨Nat.le_refl _, Nat.le_refl _⟩ hmo ?_
      refine e_r_bipush (pc' := 36) dX2_readUnit_34 rfl (by decide) ?_
      obtain ⟨ht14, hf15⟩ := h
      refine e_r_icmp_ne (tgt := 48) (pc' := 39) dX2_readUnit_36 rfl rfl (fun c => ?_) (fun c => ?_)
      · have h := ht14 c
        refine e_r_aload_n (pc' := 49) (by decide) dX2_readUnit_48 rfl rfl rfl ?_
        refine e_r_aload_n (pc' := 50) (by decide) dX2_readUnit_49 rfl rfl rfl ?_
        refine e_r_iload_n (pc' := 51) dX2_readUnit_50 rfl rfl rfl ?_
        obtain ⟨N16, he17, h⟩ := h
        refine e_r_callV (a := 24) (av := [.inr (.inr 2), .inl p2]) (st := []) mqYX2_readName ml_RX2_72 cl_2 rfl (Nat.le_of_ble_eq_true rfl) (by simp [e_cat]) rfl rfl rfl dX2_readUnit_51 (pc' := 54) rfl he17 ⟨Nat.le_refl _, Nat.le_refl _⟩ hmo ?_
        exact e_r_vret rfl dX2_readUnit_54 h
      · have h := hf15 c
        refine e_r_aload_n (pc' := 40) (by decide) dX2_readUnit_39 rfl rfl rfl ?_
        refine e_r_aload_n (pc' := 41) (by decide) dX2_readUnit_40 rfl rfl rfl ?_
        refine e_r_iload_n (pc' := 42) dX2_readUnit_41 rfl rfl rfl ?_
        obtain ⟨N18, he19, h⟩ := h
        refine e_r_callV (a := 24) (av := [.inr (.inr 2), .inl p2]) (st := []) mqYX2_readBracket ml_RX2_69 cl_2 rfl (Nat.le_of_ble_eq_true rfl) (by simp [e_cat]) rfl rfl rfl dX2_readUnit_42 (pc' := 45) rfl he19 ⟨Nat.le_refl _, Nat.le_refl _⟩ hmo ?_
        refine e_r_goto (pc' := 54) dX2_readUnit_45 rfl ?_
        exact e_r_vret rfl dX2_readUnit_54 h
    · have h := hf10 c
      refine e_r_aload_n (pc' := 16) (by decide) dX2_readUnit_15 rfl rfl rfl ?_
      refine e_r_aload_n (pc' := 17) (by decide) dX2_readUnit_16 rfl rfl rfl ?_
      refine e_r_iconst (pc' := 18) dX2_readUnit_17 rfl (by decide) ?_
      refine e_r_sipush (pc' := 21) dX2_readUnit_18 rfl (by decide) ?_
      obtain ⟨r21, N20, he22, h⟩ := h
      refine e_r_callV (a := 2) (av := [.inl 0, .inl 999]) (st := [.inr (.inr 24)]) mqYX7_readNumber ml_RX2_61 cl_7 rfl (Nat.le_of_ble_eq_true rfl) (by simp [e_cat]) rfl rfl rfl dX2_readUnit_21 (pc' := 24) rfl he22 ⟨Nat.le_refl _, Nat.le_refl _⟩ hmo ?_
      obtain ⟨N23, he24, h⟩ := h
      refine e_r_callV (a := 24) (av := [.inl r21]) (st := []) mqYX2_emit ml_RX2_51 cl_2 rfl (Nat.le_of_ble_eq_true rfl) (by simp [e_cat]) rfl rfl rfl dX2_readUnit_24 (pc' := 27) rfl he24 ⟨Nat.le_refl _, Nat.le_refl _⟩ hmo ?_
      refine e_r_goto (pc' := 54) dX2_readUnit_27 rfl ?_
      exact e_r_vret rfl dX2_readUnit_54 h
  · have h := hf5 c
    exact e_r_vret rfl dX2_readUnit_7 h
theorem wp_X2_readBracket_0 {X : e_X} {d gn : Nat} {o : e_O} (M : e_M) (p2 : Int) (hmo : e_mn (557, gn, e_RF, M) o.2) (h : ((p2 < 6 → (∃ N3 : e_M, e_E X d YX7_expectSign [.inr (.inr 2), .inl 40] (557, gn, e_RF, M) (.inl none, (557, gn, e_RF, N3)) ∧ (∃ N5 : e_M, e_E X d YX2_readSum [.inr (.inr 24), .inr (.inr 2), .inl (e_w (p2 + 1))] (557, gn, e_RF, N3) (.inl none, (557, gn, e_RF, N5)) ∧ (∃ N7 : e_M, e_E X d YX7_expectSign [.inr (.inr 2), .inl 41] (557, gn, e_RF, N5) (.inl none, (557, gn, e_RF, N7)) ∧ (o = (.inl none, (557, gn, e_RF, N7))))))) ∧ (¬ (p2 < 6) → (∃ (r10 : Int) (N9 : e_M), e_E X d YX7_signPlace [.inr (.inr 2)] (557, gn, e_RF, M) (.inl (some (.inl r10)), (557, gn, e_RF, N9)) ∧ (∃ N12 : e_M, e_E X d YX7_noteFlaw [.inr (.inr 2), .inl 3, .inl r10] (557, gn, e_RF, N9) (.inl none, (557, gn, e_RF, N12)) ∧ (o = (.inl none, (557, gn, e_RF, N12)))))))) : e_G X (d + 1) YX2_readBracket 0 [some (.inr (.inr 24)), some (.inr (.inr 2)), some (.inl p2)] [] (557, gn, e_RF, M) o := by
  refine e_r_iload_n (pc' := 1) dX2_readBracket_0 rfl rfl rfl ?_
  refine e_r_bipush (pc' := 3) dX2_readBracket_1 rfl (by decide) ?_
  obtain ⟨ht1, hf2⟩ := h
  refine e_r_icmp_lt (tgt := 16) (pc' := 6) dX2_readBracket_3 rfl rfl (fun c => ?_) (fun c => ?_)
  · have h := ht1 c
    refine e_r_aload_n (pc' := 17) (by decide) dX2_readBracket_16 rfl rfl rfl ?_
    refine e_r_bipush (pc' := 19) dX2_readBracket_17 rfl (by decide) ?_
    obtain ⟨N3, he4, h⟩ := h
    refine e_r_callV (a := 2) (av := [.inl 40]) (st := []) mqYX7_expectSign ml_RX2_82 cl_7 rfl (Nat.le_of_ble_eq_true rfl) (by simp [e_cat]) rfl rfl rfl dX2_readBracket_19 (pc' := 22) rfl he4 ⟨Nat.le_refl _, Nat.le_refl _⟩ hmo ?_
    refine e_r_aload_n (pc' := 23) (by decide) dX2_readBracket_22 rfl rfl rfl ?_
    refine e_r_aload_n (pc' := 24) (by decide) dX2_readBracket_23 rfl rfl rfl ?_
    refine e_r_iload_n (pc' := 25) dX2_readBracket_24 rfl rfl rfl ?_
    refine e_r_iconst (pc' := 26) dX2_readBracket_25 rfl (by decide) ?_
    refine e_r_iadd (pc' := 27) dX2_readBracket_26 rfl ?_
    obtain ⟨N5, he6, h⟩ := h
    refine e_r_callV (a := 24) (av := [.inr (.inr 2), .inl (e_w (p2 + 1))]) (st := []) mqYX2_readSum ml_RX2_31 cl_2 rfl (Nat.le_of_ble_eq_true rfl) (by simp [e_cat]) rfl rfl rfl dX2_readBracket_27 (pc' := 30) rfl he6 ⟨Nat.le_refl _, Nat.le_refl _⟩ hmo ?_
    refine e_r_aload_n (pc' := 31) (by decide) dX2_readBracket_30 rfl rfl rfl ?_
    refine e_r_bipush (pc' := 33) dX2_readBracket_31 rfl (by decide) ?_
    obtain ⟨N7, he8, h⟩ := h
    refine e_r_callV (a := 2) (av := [.inl 41]) (st := []) mqYX7_expectSign ml_RX2_82 cl_7 rfl (Nat.le_of_ble_eq_true rfl) (by simp [e_cat]) rfl rfl rfl dX2_readBracket_33 (pc' := 36) rfl he8 ⟨Nat.le_refl _, Nat.le_refl _⟩ hmo ?_
    exact e_r_vret rfl dX2_readBracket_36 h
  · have h := hf2 c
    refine e_r_aload_n (pc' := 7) (by decide) dX2_readBracket_6 rfl rfl rfl ?_
    refine e_r_iconst (pc' := 8) dX2_readBracket_7 rfl (by decide) ?_
    refine e_r_aload_n (pc' := 9) (by decide) dX2_readBracket_8 rfl rfl rfl ?_
    obtain ⟨r10, N9, he11, h⟩ := h
    refine e_r_callV (a := 2) (av := []) (st := [.inl 3, .inr (.inr 2)]) mqYX7_signPlace ml_RX2_75 cl_7 rfl (Nat.le_of_ble_eq_true rfl) (by simp [e_cat]) rfl rfl rfl dX2_readBracket_9 (pc' := 12) rfl he11 ⟨Nat.le_refl _, Nat.le_refl _⟩ hmo ?_
    obtain ⟨N12, he13, h⟩ := h
    refine e_r_callV (a := 2) (av := [.inl 3, .inl r10]) (st := []) mqYX7_noteFlaw ml_RX2_78 cl_7 rfl (Nat.le_of_ble_eq_true rfl) (by simp [e_cat]) rfl rfl rfl dX2_readBracket_12 (pc' := 15) rfl he13 ⟨Nat.le_refl _, Nat.le_refl _⟩ hmo ?_
    exact e_r_vret rfl dX2_readBracket_15 h
theorem wp_X2_readName_0 {X : e_X} {d gn : Nat} {o : e_O} (M : e_M) (p2 : Int) (hmo : e_mn (557, gn, e_RF, M) o.2) (h : (∃ (r2 : Int) (N1 : e_M), e_E X d YX7_readWord [.inr (.inr 2), .inr (.inr 1000002)] (557, gn, e_RF, M) (.inl (some (.inl r2)), (557, gn, e_RF, N1)) ∧ ((¬ r2 = (-1) → ((8 ≤ r2 → ((p2 < 6 → (∃ N10 : e_M, e_E X d YX7_expectSign [.inr (.inr 2), .inl 91] (557, gn, e_RF, N1) (.inl none, (557, gn, e_RF, N10)) ∧ (∃ N12 : e_M, e_E X d YX2_readSum [.inr (.inr 24), .inr (.inr 2), .inl (e_w (p2 + 1))] (557, gn, e_RF, N10) (.inl none, (557, gn, e_RF, N12)) ∧ (∃ N14 : e_M, e_E X d YX7_expectSign [.inr (.inr 2), .inl 44] (557, gn, e_RF, N12) (.inl none, (557, gn, e_RF, N14)) ∧ (∃ N16 : e_M, e_E X d YX2_readSum [.inr (.inr 24), .inr (.inr 2), .inl (e_w (p2 + 1))] (557, gn, e_RF, N14) (.inl none, (557, gn, e_RF, N16)) ∧ (∃ N18 : e_M, e_E X d YX7_expectSign [.inr (.inr 2), .inl 93] (557, gn, e_RF, N16) (.inl none, (557, gn, e_RF, N18)) ∧ ((¬ r2 = 8 → e_G X (d + 1) YX2_readName 95 [some (.inr (.inr 24)), some (.inr (.inr 2)), some (.inl p2), some (.inl r2)] [.inl 2006, .inr (.inr 24)] (557, gn, e_RF, N18) o) ∧ (r2 = 8 → e_G X (d + 1) YX2_readName 95 [some (.inr (.inr 24)), some (.inr (.inr 2)), some (.inl p2), some (.inl r2)] [.inl 2005, .inr (.inr 24)] (557, gn, e_RF, N18) o)))))))) ∧ (¬ (p2 < 6) → (∃ N22 : e_M, e_E X d YX7_noteFlaw [.inr (.inr 2), .inl 3, .inl (N1 2 6)] (557, gn, e_RF, N1) (.inl none, (557, gn, e_RF, N22)) ∧ (o = (.inl none, (557, gn, e_RF, N22))))))) ∧ (¬ (8 ≤ r2) → (∃ N24 : e_M, e_E X d YX2_emit [.inr (.inr 24), .inl (e_w (1000 + r2))] (557, gn, e_RF, N1) (.inl none, (557, gn, e_RF, N24)) ∧ (o = (.inl none, (557, gn, e_RF, N24))))))) ∧ (r2 = (-1) → (o = (.inl none, (557, gn, e_RF, N1))))))) : e_G X (d + 1) YX2_readName 0 [some (.inr (.inr 24)), some (.inr (.inr 2)), some (.inl p2), none] [] (557, gn, e_RF, M) o := by
  refine e_r_aload_n (pc' := 1) (by decide) dX2_readName_0 rfl rfl rfl ?_
  refine e_r_ldcs (q := 1000002) (pc' := 3) e_str_2 rfl dX2_readName_1 rfl ?_
  obtain ⟨r2, N1, he3, h⟩ := h
  refine e_r_callV (a := 2) (av := [.inr (.inr 1000002)]) (st := []) mqYX7_readWord ml_RX2_88 cl_7 rfl (Nat.le_of_ble_eq_true rfl) (by simp [e_cat]) rfl rfl rfl dX2_readName_3 (pc' := 6) rfl he3 ⟨Nat.le_refl _, Nat.le_refl _⟩ hmo ?_
  refine e_r_istore_n (pc' := 7) (loc' := [some (.inr (.inr 24)), some (.inr (.inr 2)), some (.inl p2), some (.inl r2)]) dX2_readName_6 rfl rfl rfl rfl rfl ?_
  refine e_r_iload_n (pc' := 8) dX2_readName_7 rfl rfl rfl ?_
  refine e_r_iconst (pc' := 9) dX2_readName_8 rfl (by decide) ?_
  obtain ⟨ht4, hf5⟩ := h
  refine e_r_icmp_ne (tgt := 13) (pc' := 12) dX2_readName_9 rfl rfl (fun c => ?_) (fun c => ?_)
  · have h := ht4 c
    refine e_r_iload_n (pc' := 14) dX2_readName_13 rfl rfl rfl ?_
    refine e_r_bipush (pc' := 16) dX2_readName_14 rfl (by decide) ?_
    obtain ⟨ht6, hf7⟩ := h
    refine e_r_icmp_ge (tgt := 29) (pc' := 19) dX2_readName_16 rfl rfl (fun c => ?_) (fun c => ?_)
    · have h := ht6 c
      refine e_r_iload_n (pc' := 30) dX2_readName_29 rfl rfl rfl ?_
      refine e_r_bipush (pc' := 32) dX2_readName_30 rfl (by decide) ?_
      obtain ⟨ht8, hf9⟩ := h
      refine e_r_icmp_lt (tgt := 45) (pc' := 35) dX2_readName_32 rfl rfl (fun c => ?_) (fun c => ?_)
      · have h := ht8 c
        refine e_r_aload_n (pc' := 46) (by decide) dX2_readName_45 rfl rfl rfl ?_
        refine e_r_bipush (pc' := 48) dX2_readName_46 rfl (by decide) ?_
        obtain ⟨N10, he11, h⟩ := h
        refine e_r_callV (a := 2) (av := [.inl 91]) (st := []) mqYX7_expectSign ml_RX2_82 cl_7 rfl (Nat.le_of_ble_eq_true rfl) (by simp [e_cat]) rfl rfl rfl dX2_readName_48 (pc' := 51) rfl he11 ⟨Nat.le_refl _, Nat.le_refl _⟩ hmo ?_
        refine e_r_aload_n (pc' := 52) (by decide) dX2_readName_51 rfl rfl rfl ?_
        refine e_r_aload_n (pc' := 53) (by decide) dX2_readName_52 rfl rfl rfl ?_
        refine e_r_iload_n (pc' := 54) dX2_readName_53 rfl rfl rfl ?_
        refine e_r_iconst (pc' := 55) dX2_readName_54 rfl (by decide) ?_
        refine e_r_iadd (pc' := 56) dX2_readName_55 rfl ?_
        obtain ⟨N12, he13, h⟩ := h
        refine e_r_callV (a := 24) (av := [.inr (.inr 2), .inl (e_w (p2 + 1))]) (st := []) mqYX2_readSum ml_RX2_31 cl_2 rfl (Nat.le_of_ble_eq_true rfl) (by simp [e_cat]) rfl rfl rfl dX2_readName_56 (pc' := 59) rfl he13 ⟨Nat.le_refl _, Nat.le_refl _⟩ hmo ?_
        refine e_r_aload_n (pc' := 60) (by decide) dX2_readName_59 rfl rfl rfl ?_
        refine e_r_bipush (pc' := 62) dX2_readName_60 rfl (by decide) ?_
        obtain ⟨N14, he15, h⟩ := h
        refine e_r_callV (a := 2) (av := [.inl 44]) (st := []) mqYX7_expectSign ml_RX2_82 cl_7 rfl (Nat.le_of_ble_eq_true rfl) (by simp [e_cat]) rfl rfl rfl dX2_readName_62 (pc' := 65) rfl he15 ⟨Nat.le_refl _, Nat.le_refl _⟩ hmo ?_
        refine e_r_aload_n (pc' := 66) (by decide) dX2_readName_65 rfl rfl rfl ?_
        refine e_r_aload_n (pc' := 67) (by decide) dX2_readName_66 rfl rfl rfl ?_
        refine e_r_iload_n (pc' := 68) dX2_readName_67 rfl rfl rfl ?_
        refine e_r_iconst (pc' := 69) dX2_readName_68 rfl (by decide) ?_
        refine e_r_iadd (pc' := 70) dX2_readName_69 rfl ?_
        obtain ⟨N16, he17, h⟩ := h
        refine e_r_callV (a := 24) (av := [.inr (.inr 2), .inl (e_w (p2 + 1))]) (st := []) mqYX2_readSum ml_RX2_31 cl_2 rfl (Nat.le_of_ble_eq_true rfl) (by simp [e_cat]) rfl rfl rfl dX2_readName_70 (pc' := 73) rfl he17 ⟨Nat.le_refl _, Nat.le_refl _⟩ hmo ?_
        refine e_r_aload_n (pc' := 74) (by decide) dX2_readName_73 rfl rfl rfl ?_
        refine e_r_bipush (pc' := 76) dX2_readName_74 rfl (by decide) ?_
        obtain ⟨N18, he19, h⟩ := h
        refine e_r_callV (a := 2) (av := [.inl 93]) (st := []) mqYX7_expectSign ml_RX2_82 cl_7 rfl (Nat.le_of_ble_eq_true rfl) (by simp [e_cat]) rfl rfl rfl dX2_readName_76 (pc' := 79) rfl he19 ⟨Nat.le_refl _, Nat.le_refl _⟩ hmo ?_
        refine e_r_aload_n (pc' := 80) (by decide) dX2_readName_79 rfl rfl rfl ?_
        refine e_r_iload_n (pc' := 81) dX2_readName_80 rfl rfl rfl ?_
        refine e_r_bipush (pc' := 83) dX2_readName_81 rfl (by decide) ?_
        obtain ⟨ht20, hf21⟩ := h
        refine e_r_icmp_ne (tgt := 92) (pc' := 86) dX2_readName_83 rfl rfl (fun c => ?_) (fun c => ?_)
        · have h := ht20 c
          refine e_r_sipush (pc' := 95) dX2_readName_92 rfl (by decide) ?_
          exact h
        · have h := hf21 c
          refine e_r_sipush (pc' := 89) dX2_readName_86 rfl (by decide) ?_
          refine e_r_goto (pc' := 95) dX2_readName_89 rfl ?_
          exact h
      · have h := hf9 c
        refine e_r_aload_n (pc' := 36) (by decide) dX2_readName_35 rfl rfl rfl ?_
        refine e_r_iconst (pc' := 37) dX2_readName_36 rfl (by decide) ?_
        refine e_r_aload_n (pc' := 38) (by decide) dX2_readName_37 rfl rfl rfl ?_
        refine e_r_geti (k := 6) (pc' := 41) cl_7 rfl (Nat.le_of_ble_eq_true rfl) rfl rfl fl_RX2_92 dX2_readName_38 rfl ?_
        obtain ⟨N22, he23, h⟩ := h
        refine e_r_callV (a := 2) (av := [.inl 3, .inl (N1 2 6)]) (st := []) mqYX7_noteFlaw ml_RX2_78 cl_7 rfl (Nat.le_of_ble_eq_true rfl) (by simp [e_cat]) rfl rfl rfl dX2_readName_41 (pc' := 44) rfl he23 ⟨Nat.le_refl _, Nat.le_refl _⟩ hmo ?_
        exact e_r_vret rfl dX2_readName_44 h
    · have h := hf7 c
      refine e_r_aload_n (pc' := 20) (by decide) dX2_readName_19 rfl rfl rfl ?_
      refine e_r_sipush (pc' := 23) dX2_readName_20 rfl (by decide) ?_
      refine e_r_iload_n (pc' := 24) dX2_readName_23 rfl rfl rfl ?_
      refine e_r_iadd (pc' := 25) dX2_readName_24 rfl ?_
      obtain ⟨N24, he25, h⟩ := h
      refine e_r_callV (a := 24) (av := [.inl (e_w (1000 + r2))]) (st := []) mqYX2_emit ml_RX2_51 cl_2 rfl (Nat.le_of_ble_eq_true rfl) (by simp [e_cat]) rfl rfl rfl dX2_readName_25 (pc' := 28) rfl he25 ⟨Nat.le_refl _, Nat.le_refl _⟩ hmo ?_
      exact e_r_vret rfl dX2_readName_28 h
  · have h := hf5 c
    exact e_r_vret rfl dX2_readName_12 h
theorem wp_X2_readName_95 {X : e_X} {d gn : Nat} {o : e_O} (M : e_M) (p2 v3 w0 : Int) (hmo : e_mn (557, gn, e_RF, M) o.2) (h : (∃ N1 : e_M, e_E X d YX2_emit [.inr (.inr 24), .inl w0] (557, gn, e_RF, M) (.inl none, (557, gn, e_RF, N1)) ∧ (o = (.inl none, (557, gn, e_RF, N1))))) : e_G X (d + 1) YX2_readName 95 [some (.inr (.inr 24)), some (.inr (.inr 2)), some (.inl p2), some (.inl v3)] [.inl w0, .inr (.inr 24)] (557, gn, e_RF, M) o := by
  obtain ⟨N1, he2, h⟩ := h
  refine e_r_callV (a := 24) (av := [.inl w0]) (st := []) mqYX2_emit ml_RX2_51 cl_2 rfl (Nat.le_of_ble_eq_true rfl) (by simp [e_cat]) rfl rfl rfl dX2_readName_95 (pc' := 98) rfl he2 ⟨Nat.le_refl _, Nat.le_refl _⟩ hmo ?_
  exact e_r_vret rfl dX2_readName_98 h
theorem wp_X2_priceOfSeen_law_0 {X : e_X} {d gn : Nat} {o : e_O} (M : e_M) (h : e_G X (d + 1) YX2_priceOfSeen 22 [some (.inr (.inr 20)), some (.inl (e_w ((e_w (5 + (e_w ((M 23 1) * 3)))) + (M 23 2)))), some (.inl 0), some (.inl 0), none] [] (557, gn, e_RF, M) o) : e_G X (d + 1) YX2_priceOfSeen 0 [some (.inr (.inr 20)), none, none, none, none] [] (557, gn, e_RF, M) o := by
  refine e_r_iconst (pc' := 1) dX2_priceOfSeen_0 rfl (by decide) ?_
  refine e_r_aload_n (pc' := 2) (by decide) dX2_priceOfSeen_1 rfl rfl rfl ?_
  refine e_r_getr (k := 3) (q := 23) (pc' := 5) cl_2 rfl (Nat.le_of_ble_eq_true rfl) rfl rfl fl_RX2_22 rfl (Nat.le_of_ble_eq_true rfl) dX2_priceOfSeen_2 rfl ?_
  refine e_r_iconst (pc' := 6) dX2_priceOfSeen_5 rfl (by decide) ?_
  refine e_r_iald (j9 := 1) (pc' := 7) rfl (Nat.le_of_ble_eq_true rfl) (by decide) (by decide) rfl dX2_priceOfSeen_6 rfl ?_
  refine e_r_iconst (pc' := 8) dX2_priceOfSeen_7 rfl (by decide) ?_
  refine e_r_imul (pc' := 9) dX2_priceOfSeen_8 rfl ?_
  refine e_r_iadd (pc' := 10) dX2_priceOfSeen_9 rfl ?_
  refine e_r_aload_n (pc' := 11) (by decide) dX2_priceOfSeen_10 rfl rfl rfl ?_
  refine e_r_getr (k := 3) (q := 23) (pc' := 14) cl_2 rfl (Nat.le_of_ble_eq_true rfl) rfl rfl fl_RX2_22 rfl (Nat.le_of_ble_eq_true rfl) dX2_priceOfSeen_11 rfl ?_
  refine e_r_iconst (pc' := 15) dX2_priceOfSeen_14 rfl (by decide) ?_
  refine e_r_iald (j9 := 2) (pc' := 16) rfl (Nat.le_of_ble_eq_true rfl) (by decide) (by decide) rfl dX2_priceOfSeen_15 rfl ?_
  refine e_r_iadd (pc' := 17) dX2_priceOfSeen_16 rfl ?_
  refine e_r_istore_n (pc' := 18) (loc' := [some (.inr (.inr 20)), some (.inl (e_w ((e_w (5 + (e_w ((M 23 1) * 3)))) + (M 23 2)))), none, none, none]) dX2_priceOfSeen_17 rfl rfl rfl rfl rfl ?_
  refine e_r_iconst (pc' := 19) dX2_priceOfSeen_18 rfl (by decide) ?_
  refine e_r_istore_n (pc' := 20) (loc' := [some (.inr (.inr 20)), some (.inl (e_w ((e_w (5 + (e_w ((M 23 1) * 3)))) + (M 23 2)))), some (.inl 0), none, none]) dX2_priceOfSeen_19 rfl rfl rfl rfl rfl ?_
  refine e_r_iconst (pc' := 21) dX2_priceOfSeen_20 rfl (by decide) ?_
  refine e_r_istore_n (pc' := 22) (loc' := [some (.inr (.inr 20)), some (.inl (e_w ((e_w (5 + (e_w ((M 23 1) * 3)))) + (M 23 2)))), some (.inl 0), some (.inl 0), none]) dX2_priceOfSeen_21 rfl rfl rfl rfl rfl ?_
  exact h
theorem wp_X2_priceOfSeen_law_22 {X : e_X} {d gn : Nat} {o : e_O} (M : e_M) (v1 v2 v3 : Int) (hmo : e_mn (557, gn, e_RF, M) o.2) (h : (((M 20 1) ≤ v3 → ((v2 ≤ 0 → e_G X (d + 1) YX2_priceOfSeen 123 [some (.inr (.inr 20)), some (.inl v1), some (.inl v2), some (.inl v3), none] [] (557, gn, e_RF, M) o) ∧ (¬ (v2 ≤ 0) → e_G X (d + 1) YX2_priceOfSeen 123 [some (.inr (.inr 20)), some (.inl (M 22 0)), some (.inl v2), some (.inl v3), none] [] (557, gn, e_RF, M) o))) ∧ (¬ ((M 20 1) ≤ v3) → ((0 ≤ v3 ∧ v3 < 150) ∧ (((M 21 v3.toNat) < 2000 → ((150 ≤ v2 → e_G X (d + 1) YX2_priceOfSeen 22 [some (.inr (.inr 20)), some (.inl v1), some (.inl v2), some (.inl (e_w (v3 + 1))), none] [] (557, gn, e_RF, M) o) ∧ (¬ (150 ≤ v2) → (∃ (r11 : Int) (N10 : e_M), e_E X d YX2_valueOf [.inr (.inr 20), .inl (M 21 v3.toNat)] (557, gn, e_RF, M) (.inl (some (.inl r11)), (557, gn, e_RF, N10)) ∧ ((0 ≤ v2 ∧ v2 < 150) ∧ e_G X (d + 1) YX2_priceOfSeen 22 [some (.inr (.inr 20)), some (.inl v1), some (.inl (e_w (v2 + 1))), some (.inl (e_w (v3 + 1))), none] [] (557, gn, e_RF, (e_up N10 22 v2.toNat r11)) o))))) ∧ (¬ ((M 21 v3.toNat) < 2000) → ((v2 < 2 → e_G X (d + 1) YX2_priceOfSeen 22 [some (.inr (.inr 20)), some (.inl v1), some (.inl v2), some (.inl (e_w (v3 + 1))), none] [] (557, gn, e_RF, M) o) ∧ (¬ (v2 < 2) → ((0 ≤ (e_w ((e_w (v2 + (-1))) - 1)) ∧ (e_w ((e_w (v2 + (-1))) - 1)) < 150) ∧ ((0 ≤ (e_w (v2 + (-1))) ∧ (e_w (v2 + (-1))) < 150) ∧ (∃ (r19 : Int) (N18 : e_M), e_E X d YX2_combined [.inl (M 21 v3.toNat), .inl (M 22 (e_w ((e_w (v2 + (-1))) - 1)).toNat), .inl (M 22 (e_w (v2 + (-1))).toNat)] (557, gn, e_RF, M) (.inl (some (.inl r19)), (557, gn, e_RF, N18)) ∧ ((0 ≤ (e_w ((e_w (v2 + (-1))) - 1)) ∧ (e_w ((e_w (v2 + (-1))) - 1)) < 150) ∧ e_G X (d + 1) YX2_priceOfSeen 22 [some (.inr (.inr 20)), some (.inl v1), some (.inl (e_w (v2 + (-1)))), some (.inl (e_w (v3 + 1))), none] [] (557, gn, e_RF, (e_up N18 22 (e_w ((e_w (v2 + (-1))) - 1)).toNat r19)) o)))))))))))) : e_G X (d + 1) YX2_priceOfSeen 22 [some (.inr (.inr 20)), some (.inl v1), some (.inl v2), some (.inl v3), none] [] (557, gn, e_RF, M) o := by
  refine e_r_iload_n (pc' := 23) dX2_priceOfSeen_22 rfl rfl rfl ?_
  refine e_r_aload_n (pc' := 24) (by decide) dX2_priceOfSeen_23 rfl rfl rfl ?_
  refine e_r_geti (k := 1) (pc' := 27) cl_2 rfl (Nat.le_of_ble_eq_true rfl) rfl rfl fl_RX2_15 dX2_priceOfSeen_24 rfl ?_
  obtain ⟨ht1, hf2⟩ := h
  refine e_r_icmp_ge (tgt := 112) (pc' := 30) dX2_priceOfSeen_27 rfl rfl (fun c => ?_) (fun c => ?_)
  · have h := ht1 c
    refine e_r_iload_n (pc' := 113) dX2_priceOfSeen_112 rfl rfl rfl ?_
    obtain ⟨ht3, hf4⟩ := h
    refine e_r_if_le (tgt := 123) (pc' := 116) dX2_priceOfSeen_113 rfl rfl (fun c => ?_) (fun c => ?_)
    · have h := ht3 c
      exact h
    · have h := hf4 c
      refine e_r_aload_n (pc' := 117) (by decide) dX2_priceOfSeen_116 rfl rfl rfl ?_
      refine e_r_getr (k := 2) (q := 22) (pc' := 120) cl_2 rfl (Nat.le_of_ble_eq_true rfl) rfl rfl fl_RX2_19 rfl (Nat.le_of_ble_eq_true rfl) dX2_priceOfSeen_117 rfl ?_
      refine e_r_iconst (pc' := 121) dX2_priceOfSeen_120 rfl (by decide) ?_
      refine e_r_iald (j9 := 0) (pc' := 122) rfl (Nat.le_of_ble_eq_true rfl) (by decide) (by decide) rfl dX2_priceOfSeen_121 rfl ?_
      refine e_r_istore_n (pc' := 123) (loc' := [some (.inr (.inr 20)), some (.inl (M 22 0)), some (.inl v2), some (.inl v3), none]) dX2_priceOfSeen_122 rfl rfl rfl rfl rfl ?_
      exact h
  · have h := hf2 c
    refine e_r_aload_n (pc' := 31) (by decide) dX2_priceOfSeen_30 rfl rfl rfl ?_
    refine e_r_getr (k := 0) (q := 21) (pc' := 34) cl_2 rfl (Nat.le_of_ble_eq_true rfl) rfl rfl fl_RX2_9 rfl (Nat.le_of_ble_eq_true rfl) dX2_priceOfSeen_31 rfl ?_
    refine e_r_iload_n (pc' := 35) dX2_priceOfSeen_34 rfl rfl rfl ?_
    obtain ⟨hb5, h⟩ := h
    refine e_r_iald (j9 := v3.toNat) (pc' := 36) rfl (Nat.le_of_ble_eq_true rfl) hb5.1 hb5.2 rfl dX2_priceOfSeen_35 rfl ?_
    refine e_r_istore (pc' := 38) (loc' := [some (.inr (.inr 20)), some (.inl v1), some (.inl v2), some (.inl v3), some (.inl (M 21 v3.toNat))]) dX2_priceOfSeen_36 rfl rfl rfl rfl ?_
    refine e_r_iload (pc' := 40) dX2_priceOfSeen_38 rfl rfl ?_
    refine e_r_sipush (pc' := 43) dX2_priceOfSeen_40 rfl (by decide) ?_
    obtain ⟨ht6, hf7⟩ := h
    refine e_r_icmp_lt (tgt := 84) (pc' := 46) dX2_priceOfSeen_43 rfl rfl (fun c => ?_) (fun c => ?_)
    · have h := ht6 c
      refine e_r_iload_n (pc' := 85) dX2_priceOfSeen_84 rfl rfl rfl ?_
      refine e_r_sipush (pc' := 88) dX2_priceOfSeen_85 rfl (by decide) ?_
      obtain ⟨ht8, hf9⟩ := h
      refine e_r_icmp_ge (tgt := 106) (pc' := 91) dX2_priceOfSeen_88 rfl rfl (fun c => ?_) (fun c => ?_)
      · have h := ht8 c
        refine e_r_iinc (pc' := 109) (loc' := [some (.inr (.inr 20)), some (.inl v1), some (.inl v2), some (.inl (e_w (v3 + 1))), some (.inl (M 21 v3.toNat))]) dX2_priceOfSeen_106 rfl rfl rfl rfl rfl ?_
        refine e_r_goto (pc' := 22) dX2_priceOfSeen_109 rfl ?_
        exact e_forget (m := [true, true, true, true, false]) h rfl
      · have h := hf9 c
        refine e_r_aload_n (pc' := 92) (by decide) dX2_priceOfSeen_91 rfl rfl rfl ?_
        refine e_r_getr (k := 2) (q := 22) (pc' := 95) cl_2 rfl (Nat.le_of_ble_eq_true rfl) rfl rfl fl_RX2_19 rfl (Nat.le_of_ble_eq_true rfl) dX2_priceOfSeen_92 rfl ?_
        refine e_r_iload_n (pc' := 96) dX2_priceOfSeen_95 rfl rfl rfl ?_
        refine e_r_aload_n (pc' := 97) (by decide) dX2_priceOfSeen_96 rfl rfl rfl ?_
        refine e_r_iload (pc' := 99) dX2_priceOfSeen_97 rfl rfl ?_
        obtain ⟨r11, N10, he12, h⟩ := h
        refine e_r_callV (a := 20) (av := [.inl (M 21 v3.toNat)]) (st := [.inl v2, .inr (.inr 22)]) mqYX2_valueOf ml_RX2_99 cl_2 rfl (Nat.le_of_ble_eq_true rfl) (by simp [e_cat]) rfl rfl rfl dX2_priceOfSeen_99 (pc' := 102) rfl he12 ⟨Nat.le_refl _, Nat.le_refl _⟩ hmo ?_
        obtain ⟨hb13, h⟩ := h
        refine e_r_iast (j9 := v2.toNat) (pc' := 103) rfl (Nat.le_of_ble_eq_true rfl) hb13.1 hb13.2 rfl dX2_priceOfSeen_102 rfl ?_
        refine e_r_iinc (pc' := 106) (loc' := [some (.inr (.inr 20)), some (.inl v1), some (.inl (e_w (v2 + 1))), some (.inl v3), some (.inl (M 21 v3.toNat))]) dX2_priceOfSeen_103 rfl rfl rfl rfl rfl ?_
        refine e_r_iinc (pc' := 109) (loc' := [some (.inr (.inr 20)), some (.inl v1), some (.inl (e_w (v2 + 1))), some (.inl (e_w (v3 + 1))), some (.inl (M 21 v3.toNat))]) dX2_priceOfSeen_106 rfl rfl rfl rfl rfl ?_
        refine e_r_goto (pc' := 22) dX2_priceOfSeen_109 rfl ?_
        exact e_forget (m := [true, true, true, true, false]) h rfl
    · have h := hf7 c
      refine e_r_iload_n (pc' := 47) dX2_priceOfSeen_46 rfl rfl rfl ?_
      refine e_r_iconst (pc' := 48) dX2_priceOfSeen_47 rfl (by decide) ?_
      obtain ⟨ht14, hf15⟩ := h
      refine e_r_icmp_lt (tgt := 106) (pc' := 51) dX2_priceOfSeen_48 rfl rfl (fun c => ?_) (fun c => ?_)
      · have h := ht14 c
        refine e_r_iinc (pc' := 109) (loc' := [some (.inr (.inr 20)), some (.inl v1), some (.inl v2), some (.inl (e_w (v3 + 1))), some (.inl (M 21 v3.toNat))]) dX2_priceOfSeen_106 rfl rfl rfl rfl rfl ?_
        refine e_r_goto (pc' := 22) dX2_priceOfSeen_109 rfl ?_
        exact e_forget (m := [true, true, true, true, false]) h rfl
      · have h := hf15 c
        refine e_r_iinc (pc' := 54) (loc' := [some (.inr (.inr 20)), some (.inl v1), some (.inl (e_w (v2 + (-1)))), some (.inl v3), some (.inl (M 21 v3.toNat))]) dX2_priceOfSeen_51 rfl rfl rfl rfl rfl ?_
        refine e_r_aload_n (pc' := 55) (by decide) dX2_priceOfSeen_54 rfl rfl rfl ?_
        refine e_r_getr (k := 2) (q := 22) (pc' := 58) cl_2 rfl (Nat.le_of_ble_eq_true rfl) rfl rfl fl_RX2_19 rfl (Nat.le_of_ble_eq_true rfl) dX2_priceOfSeen_55 rfl ?_
        refine e_r_iload_n (pc' := 59) dX2_priceOfSeen_58 rfl rfl rfl ?_
        refine e_r_iconst (pc' := 60) dX2_priceOfSeen_59 rfl (by decide) ?_
        refine e_r_isub (pc' := 61) dX2_priceOfSeen_60 rfl ?_
        refine e_r_iload (pc' := 63) dX2_priceOfSeen_61 rfl rfl ?_
        refine e_r_aload_n (pc' := 64) (by decide) dX2_priceOfSeen_63 rfl rfl rfl ?_
        refine e_r_getr (k := 2) (q := 22) (pc' := 67) cl_2 rfl (Nat.le_of_ble_eq_true rfl) rfl rfl fl_RX2_19 rfl (Nat.le_of_ble_eq_true rfl) dX2_priceOfSeen_64 rfl ?_
        refine e_r_iload_n (pc' := 68) dX2_priceOfSeen_67 rfl rfl rfl ?_
        refine e_r_iconst (pc' := 69) dX2_priceOfSeen_68 rfl (by decide) ?_
        refine e_r_isub (pc' := 70) dX2_priceOfSeen_69 rfl ?_
        obtain ⟨hb16, h⟩ := h
        refine e_r_iald (j9 := (e_w ((e_w (v2 + (-1))) - 1)).toNat) (pc' := 71) rfl (Nat.le_of_ble_eq_true rfl) hb16.1 hb16.2 rfl dX2_priceOfSeen_70 rfl ?_
        refine e_r_aload_n (pc' := 72) (by decide) dX2_priceOfSeen_71 rfl rfl rfl ?_
        refine e_r_getr (k := 2) (q := 22) (pc' := 75) cl_2 rfl (Nat.le_of_ble_eq_true rfl) rfl rfl fl_RX2_19 rfl (Nat.le_of_ble_eq_true rfl) dX2_priceOfSeen_72 rfl ?_
        refine e_r_iload_n (pc' := 76) dX2_priceOfSeen_75 rfl rfl rfl ?_
        obtain ⟨hb17, h⟩ := h
        refine e_r_iald (j9 := (e_w (v2 + (-1))).toNat) (pc' := 77) rfl (Nat.le_of_ble_eq_true rfl) hb17.1 hb17.2 rfl dX2_priceOfSeen_76 rfl ?_
        obtain ⟨r19, N18, he20, h⟩ := h
        refine e_r_callS (av := [.inl (M 21 v3.toNat), .inl (M 22 (e_w ((e_w (v2 + (-1))) - 1)).toNat), .inl (M 22 (e_w (v2 + (-1))).toNat)]) (st := [.inl (e_w ((e_w (v2 + (-1))) - 1)), .inr (.inr 22)]) mqYX2_combined ml_RX2_95 (by simp [e_cat]) rfl rfl rfl dX2_priceOfSeen_77 (pc' := 80) rfl he20 ⟨Nat.le_refl _, Nat.le_refl _⟩ hmo ?_
        obtain ⟨hb21, h⟩ := h
        refine e_r_iast (j9 := (e_w ((e_w (v2 + (-1))) - 1)).toNat) (pc' := 81) rfl (Nat.le_of_ble_eq_true rfl) hb21.1 hb21.2 rfl dX2_priceOfSeen_80 rfl ?_
        refine e_r_goto (pc' := 106) dX2_priceOfSeen_81 rfl ?_
        refine e_r_iinc (pc' := 109) (loc' := [some (.inr (.inr 20)), some (.inl v1), some (.inl (e_w (v2 + (-1)))), some (.inl (e_w (v3 + 1))), some (.inl (M 21 v3.toNat))]) dX2_priceOfSeen_106 rfl rfl rfl rfl rfl ?_
        refine e_r_goto (pc' := 22) dX2_priceOfSeen_109 rfl ?_
        exact e_forget (m := [true, true, true, true, false]) h rfl
theorem wp_X2_priceOfSeen_law_123 {X : e_X} {d gn : Nat} {o : e_O} (M : e_M) (v1 v2 v3 : Int) (h : (o = (.inl (some (.inl (max 0 (min 99 v1)))), (557, gn, e_RF, M)))) : e_G X (d + 1) YX2_priceOfSeen 123 [some (.inr (.inr 20)), some (.inl v1), some (.inl v2), some (.inl v3), none] [] (557, gn, e_RF, M) o := by
  refine e_r_iconst (pc' := 124) dX2_priceOfSeen_123 rfl (by decide) ?_
  refine e_r_bipush (pc' := 126) dX2_priceOfSeen_124 rfl (by decide) ?_
  refine e_r_iload_n (pc' := 127) dX2_priceOfSeen_126 rfl rfl rfl ?_
  refine e_r_min (pc' := 130) lk_RX2_103 rfl dX2_priceOfSeen_127 rfl ?_
  refine e_r_max (pc' := 133) lk_RX2_108 rfl dX2_priceOfSeen_130 rfl ?_
  exact e_r_iret (ty := .int) rfl (e_nI _) dX2_priceOfSeen_133 h
theorem wp_X2_priceOfSeen_lawDraft_0 {X : e_X} {d gn : Nat} {o : e_O} (M : e_M) (h : e_G X (d + 1) YX2_priceOfSeen 22 [some (.inr (.inr 24)), some (.inl (e_w ((e_w (5 + (e_w ((M 27 1) * 3)))) + (M 27 2)))), some (.inl 0), some (.inl 0), none] [] (557, gn, e_RF, M) o) : e_G X (d + 1) YX2_priceOfSeen 0 [some (.inr (.inr 24)), none, none, none, none] [] (557, gn, e_RF, M) o := by
  refine e_r_iconst (pc' := 1) dX2_priceOfSeen_0 rfl (by decide) ?_
  refine e_r_aload_n (pc' := 2) (by decide) dX2_priceOfSeen_1 rfl rfl rfl ?_
  refine e_r_getr (k := 3) (q := 27) (pc' := 5) cl_2 rfl (Nat.le_of_ble_eq_true rfl) rfl rfl fl_RX2_22 rfl (Nat.le_of_ble_eq_true rfl) dX2_priceOfSeen_2 rfl ?_
  refine e_r_iconst (pc' := 6) dX2_priceOfSeen_5 rfl (by decide) ?_
  refine e_r_iald (j9 := 1) (pc' := 7) rfl (Nat.le_of_ble_eq_true rfl) (by decide) (by decide) rfl dX2_priceOfSeen_6 rfl ?_
  refine e_r_iconst (pc' := 8) dX2_priceOfSeen_7 rfl (by decide) ?_
  refine e_r_imul (pc' := 9) dX2_priceOfSeen_8 rfl ?_
  refine e_r_iadd (pc' := 10) dX2_priceOfSeen_9 rfl ?_
  refine e_r_aload_n (pc' := 11) (by decide) dX2_priceOfSeen_10 rfl rfl rfl ?_
  refine e_r_getr (k := 3) (q := 27) (pc' := 14) cl_2 rfl (Nat.le_of_ble_eq_true rfl) rfl rfl fl_RX2_22 rfl (Nat.le_of_ble_eq_true rfl) dX2_priceOfSeen_11 rfl ?_
  refine e_r_iconst (pc' := 15) dX2_priceOfSeen_14 rfl (by decide) ?_
  refine e_r_iald (j9 := 2) (pc' := 16) rfl (Nat.le_of_ble_eq_true rfl) (by decide) (by decide) rfl dX2_priceOfSeen_15 rfl ?_
  refine e_r_iadd (pc' := 17) dX2_priceOfSeen_16 rfl ?_
  refine e_r_istore_n (pc' := 18) (loc' := [some (.inr (.inr 24)), some (.inl (e_w ((e_w (5 + (e_w ((M 27 1) * 3)))) + (M 27 2)))), none, none, none]) dX2_priceOfSeen_17 rfl rfl rfl rfl rfl ?_
  refine e_r_iconst (pc' := 19) dX2_priceOfSeen_18 rfl (by decide) ?_
  refine e_r_istore_n (pc' := 20) (loc' := [some (.inr (.inr 24)), some (.inl (e_w ((e_w (5 + (e_w ((M 27 1) * 3)))) + (M 27 2)))), some (.inl 0), none, none]) dX2_priceOfSeen_19 rfl rfl rfl rfl rfl ?_
  refine e_r_iconst (pc' := 21) dX2_priceOfSeen_20 rfl (by decide) ?_
  refine e_r_istore_n (pc' := 22) (loc' := [some (.inr (.inr 24)), some (.inl (e_w ((e_w (5 + (e_w ((M 27 1) * 3)))) + (M 27 2)))), some (.inl 0), some (.inl 0), none]) dX2_priceOfSeen_21 rfl rfl rfl rfl rfl ?_
  exact h
theorem wp_X2_priceOfSeen_lawDraft_22 {X : e_X} {d gn : Nat} {o : e_O} (M : e_M) (v1 v2 v3 : Int) (hmo : e_mn (557, gn, e_RF, M) o.2) (h : (((M 24 1) ≤ v3 → ((v2 ≤ 0 → e_G X (d + 1) YX2_priceOfSeen 123 [some (.inr (.inr 24)), some (.inl v1), some (.inl v2), some (.inl v3), none] [] (557, gn, e_RF, M) o) ∧ (¬ (v2 ≤ 0) → e_G X (d + 1) YX2_priceOfSeen 123 [some (.inr (.inr 24)), some (.inl (M 26 0)), some (.inl v2), some (.inl v3), none] [] (557, gn, e_RF, M) o))) ∧ (¬ ((M 24 1) ≤ v3) → ((0 ≤ v3 ∧ v3 < 150) ∧ (((M 25 v3.toNat) < 2000 → ((150 ≤ v2 → e_G X (d + 1) YX2_priceOfSeen 22 [some (.inr (.inr 24)), some (.inl v1), some (.inl v2), some (.inl (e_w (v3 + 1))), none] [] (557, gn, e_RF, M) o) ∧ (¬ (150 ≤ v2) → (∃ (r11 : Int) (N10 : e_M), e_E X d YX2_valueOf [.inr (.inr 24), .inl (M 25 v3.toNat)] (557, gn, e_RF, M) (.inl (some (.inl r11)), (557, gn, e_RF, N10)) ∧ ((0 ≤ v2 ∧ v2 < 150) ∧ e_G X (d + 1) YX2_priceOfSeen 22 [some (.inr (.inr 24)), some (.inl v1), some (.inl (e_w (v2 + 1))), some (.inl (e_w (v3 + 1))), none] [] (557, gn, e_RF, (e_up N10 26 v2.toNat r11)) o))))) ∧ (¬ ((M 25 v3.toNat) < 2000) → ((v2 < 2 → e_G X (d + 1) YX2_priceOfSeen 22 [some (.inr (.inr 24)), some (.inl v1), some (.inl v2), some (.inl (e_w (v3 + 1))), none] [] (557, gn, e_RF, M) o) ∧ (¬ (v2 < 2) → ((0 ≤ (e_w ((e_w (v2 + (-1))) - 1)) ∧ (e_w ((e_w (v2 + (-1))) - 1)) < 150) ∧ ((0 ≤ (e_w (v2 + (-1))) ∧ (e_w (v2 + (-1))) < 150) ∧ (∃ (r19 : Int) (N18 : e_M), e_E X d YX2_combined [.inl (M 25 v3.toNat), .inl (M 26 (e_w ((e_w (v2 + (-1))) - 1)).toNat), .inl (M 26 (e_w (v2 + (-1))).toNat)] (557, gn, e_RF, M) (.inl (some (.inl r19)), (557, gn, e_RF, N18)) ∧ ((0 ≤ (e_w ((e_w (v2 + (-1))) - 1)) ∧ (e_w ((e_w (v2 + (-1))) - 1)) < 150) ∧ e_G X (d + 1) YX2_priceOfSeen 22 [some (.inr (.inr 24)), some (.inl v1), some (.inl (e_w (v2 + (-1)))), some (.inl (e_w (v3 + 1))), none] [] (557, gn, e_RF, (e_up N18 26 (e_w ((e_w (v2 + (-1))) - 1)).toNat r19)) o)))))))))))) : e_G X (d + 1) YX2_priceOfSeen 22 [some (.inr (.inr 24)), some (.inl v1), some (.inl v2), some (.inl v3), none] [] (557, gn, e_RF, M) o := by
  refine e_r_iload_n (pc' := 23) dX2_priceOfSeen_22 rfl rfl rfl ?_
  refine e_r_aload_n (pc' := 24) (by decide) dX2_priceOfSeen_23 rfl rfl rfl ?_
  refine e_r_geti (k := 1) (pc' := 27) cl_2 rfl (Nat.le_of_ble_eq_true rfl) rfl rfl fl_RX2_15 dX2_priceOfSeen_24 rfl ?_
  obtain ⟨ht1, hf2⟩ := h
  refine e_r_icmp_ge (tgt := 112) (pc' := 30) dX2_priceOfSeen_27 rfl rfl (fun c => ?_) (fun c => ?_)
  · have h := ht1 c
    refine e_r_iload_n (pc' := 113) dX2_priceOfSeen_112 rfl rfl rfl ?_
    obtain ⟨ht3, hf4⟩ := h
    refine e_r_if_le (tgt := 123) (pc' := 116) dX2_priceOfSeen_113 rfl rfl (fun c => ?_) (fun c => ?_)
    · have h := ht3 c
      exact h
    · have h := hf4 c
      refine e_r_aload_n (pc' := 117) (by decide) dX2_priceOfSeen_116 rfl rfl rfl ?_
      refine e_r_getr (k := 2) (q := 26) (pc' := 120) cl_2 rfl (Nat.le_of_ble_eq_true rfl) rfl rfl fl_RX2_19 rfl (Nat.le_of_ble_eq_true rfl) dX2_priceOfSeen_117 rfl ?_
      refine e_r_iconst (pc' := 121) dX2_priceOfSeen_120 rfl (by decide) ?_
      refine e_r_iald (j9 := 0) (pc' := 122) rfl (Nat.le_of_ble_eq_true rfl) (by decide) (by decide) rfl dX2_priceOfSeen_121 rfl ?_
      refine e_r_istore_n (pc' := 123) (loc' := [some (.inr (.inr 24)), some (.inl (M 26 0)), some (.inl v2), some (.inl v3), none]) dX2_priceOfSeen_122 rfl rfl rfl rfl rfl ?_
      exact h
  · have h := hf2 c
    refine e_r_aload_n (pc' := 31) (by decide) dX2_priceOfSeen_30 rfl rfl rfl ?_
    refine e_r_getr (k := 0) (q := 25) (pc' := 34) cl_2 rfl (Nat.le_of_ble_eq_true rfl) rfl rfl fl_RX2_9 rfl (Nat.le_of_ble_eq_true rfl) dX2_priceOfSeen_31 rfl ?_
    refine e_r_iload_n (pc' := 35) dX2_priceOfSeen_34 rfl rfl rfl ?_
    obtain ⟨hb5, h⟩ := h
    refine e_r_iald (j9 := v3.toNat) (pc' := 36) rfl (Nat.le_of_ble_eq_true rfl) hb5.1 hb5.2 rfl dX2_priceOfSeen_35 rfl ?_
    refine e_r_istore (pc' := 38) (loc' := [some (.inr (.inr 24)), some (.inl v1), some (.inl v2), some (.inl v3), some (.inl (M 25 v3.toNat))]) dX2_priceOfSeen_36 rfl rfl rfl rfl ?_
    refine e_r_iload (pc' := 40) dX2_priceOfSeen_38 rfl rfl ?_
    refine e_r_sipush (pc' := 43) dX2_priceOfSeen_40 rfl (by decide) ?_
    obtain ⟨ht6, hf7⟩ := h
    refine e_r_icmp_lt (tgt := 84) (pc' := 46) dX2_priceOfSeen_43 rfl rfl (fun c => ?_) (fun c => ?_)
    · have h := ht6 c
      refine e_r_iload_n (pc' := 85) dX2_priceOfSeen_84 rfl rfl rfl ?_
      refine e_r_sipush (pc' := 88) dX2_priceOfSeen_85 rfl (by decide) ?_
      obtain ⟨ht8, hf9⟩ := h
      refine e_r_icmp_ge (tgt := 106) (pc' := 91) dX2_priceOfSeen_88 rfl rfl (fun c => ?_) (fun c => ?_)
      · have h := ht8 c
        refine e_r_iinc (pc' := 109) (loc' := [some (.inr (.inr 24)), some (.inl v1), some (.inl v2), some (.inl (e_w (v3 + 1))), some (.inl (M 25 v3.toNat))]) dX2_priceOfSeen_106 rfl rfl rfl rfl rfl ?_
        refine e_r_goto (pc' := 22) dX2_priceOfSeen_109 rfl ?_
        exact e_forget (m := [true, true, true, true, false]) h rfl
      · have h := hf9 c
        refine e_r_aload_n (pc' := 92) (by decide) dX2_priceOfSeen_91 rfl rfl rfl ?_
        refine e_r_getr (k := 2) (q := 26) (pc' := 95) cl_2 rfl (Nat.le_of_ble_eq_true rfl) rfl rfl fl_RX2_19 rfl (Nat.le_of_ble_eq_true rfl) dX2_priceOfSeen_92 rfl ?_
        refine e_r_iload_n (pc' := 96) dX2_priceOfSeen_95 rfl rfl rfl ?_
        refine e_r_aload_n (pc' := 97) (by decide) dX2_priceOfSeen_96 rfl rfl rfl ?_
        refine e_r_iload (pc' := 99) dX2_priceOfSeen_97 rfl rfl ?_
        obtain ⟨r11, N10, he12, h⟩ := h
        refine e_r_callV (a := 24) (av := [.inl (M 25 v3.toNat)]) (st := [.inl v2, .inr (.inr 26)]) mqYX2_valueOf ml_RX2_99 cl_2 rfl (Nat.le_of_ble_eq_true rfl) (by simp [e_cat]) rfl rfl rfl dX2_priceOfSeen_99 (pc' := 102) rfl he12 ⟨Nat.le_refl _, Nat.le_refl _⟩ hmo ?_
        obtain ⟨hb13, h⟩ := h
        refine e_r_iast (j9 := v2.toNat) (pc' := 103) rfl (Nat.le_of_ble_eq_true rfl) hb13.1 hb13.2 rfl dX2_priceOfSeen_102 rfl ?_
        refine e_r_iinc (pc' := 106) (loc' := [some (.inr (.inr 24)), some (.inl v1), some (.inl (e_w (v2 + 1))), some (.inl v3), some (.inl (M 25 v3.toNat))]) dX2_priceOfSeen_103 rfl rfl rfl rfl rfl ?_
        refine e_r_iinc (pc' := 109) (loc' := [some (.inr (.inr 24)), some (.inl v1), some (.inl (e_w (v2 + 1))), some (.inl (e_w (v3 + 1))), some (.inl (M 25 v3.toNat))]) dX2_priceOfSeen_106 rfl rfl rfl rfl rfl ?_
        refine e_r_goto (pc' := 22) dX2_priceOfSeen_109 rfl ?_
        exact e_forget (m := [true, true, true, true, false]) h rfl
    · have h := hf7 c
      refine e_r_iload_n (pc' := 47) dX2_priceOfSeen_46 rfl rfl rfl ?_
      refine e_r_iconst (pc' := 48) dX2_priceOfSeen_47 rfl (by decide) ?_
      obtain ⟨ht14, hf15⟩ := h
      refine e_r_icmp_lt (tgt := 106) (pc' := 51) dX2_priceOfSeen_48 rfl rfl (fun c => ?_) (fun c => ?_)
      · have h := ht14 c
        refine e_r_iinc (pc' := 109) (loc' := [some (.inr (.inr 24)), some (.inl v1), some (.inl v2), some (.inl (e_w (v3 + 1))), some (.inl (M 25 v3.toNat))]) dX2_priceOfSeen_106 rfl rfl rfl rfl rfl ?_
        refine e_r_goto (pc' := 22) dX2_priceOfSeen_109 rfl ?_
        exact e_forget (m := [true, true, true, true, false]) h rfl
      · have h := hf15 c
        refine e_r_iinc (pc' := 54) (loc' := [some (.inr (.inr 24)), some (.inl v1), some (.inl (e_w (v2 + (-1)))), some (.inl v3), some (.inl (M 25 v3.toNat))]) dX2_priceOfSeen_51 rfl rfl rfl rfl rfl ?_
        refine e_r_aload_n (pc' := 55) (by decide) dX2_priceOfSeen_54 rfl rfl rfl ?_
        refine e_r_getr (k := 2) (q := 26) (pc' := 58) cl_2 rfl (Nat.le_of_ble_eq_true rfl) rfl rfl fl_RX2_19 rfl (Nat.le_of_ble_eq_true rfl) dX2_priceOfSeen_55 rfl ?_
        refine e_r_iload_n (pc' := 59) dX2_priceOfSeen_58 rfl rfl rfl ?_
        refine e_r_iconst (pc' := 60) dX2_priceOfSeen_59 rfl (by decide) ?_
        refine e_r_isub (pc' := 61) dX2_priceOfSeen_60 rfl ?_
        refine e_r_iload (pc' := 63) dX2_priceOfSeen_61 rfl rfl ?_
        refine e_r_aload_n (pc' := 64) (by decide) dX2_priceOfSeen_63 rfl rfl rfl ?_
        refine e_r_getr (k := 2) (q := 26) (pc' := 67) cl_2 rfl (Nat.le_of_ble_eq_true rfl) rfl rfl fl_RX2_19 rfl (Nat.le_of_ble_eq_true rfl) dX2_priceOfSeen_64 rfl ?_
        refine e_r_iload_n (pc' := 68) dX2_priceOfSeen_67 rfl rfl rfl ?_
        refine e_r_iconst (pc' := 69) dX2_priceOfSeen_68 rfl (by decide) ?_
        refine e_r_isub (pc' := 70) dX2_priceOfSeen_69 rfl ?_
        obtain ⟨hb16, h⟩ := h
        refine e_r_iald (j9 := (e_w ((e_w (v2 + (-1))) - 1)).toNat) (pc' := 71) rfl (Nat.le_of_ble_eq_true rfl) hb16.1 hb16.2 rfl dX2_priceOfSeen_70 rfl ?_
        refine e_r_aload_n (pc' := 72) (by decide) dX2_priceOfSeen_71 rfl rfl rfl ?_
        refine e_r_getr (k := 2) (q := 26) (pc' := 75) cl_2 rfl (Nat.le_of_ble_eq_true rfl) rfl rfl fl_RX2_19 rfl (Nat.le_of_ble_eq_true rfl) dX2_priceOfSeen_72 rfl ?_
        refine e_r_iload_n (pc' := 76) dX2_priceOfSeen_75 rfl rfl rfl ?_
        obtain ⟨hb17, h⟩ := h
        refine e_r_iald (j9 := (e_w (v2 + (-1))).toNat) (pc' := 77) rfl (Nat.le_of_ble_eq_true rfl) hb17.1 hb17.2 rfl dX2_priceOfSeen_76 rfl ?_
        obtain ⟨r19, N18, he20, h⟩ := h
        refine e_r_callS (av := [.inl (M 25 v3.toNat), .inl (M 26 (e_w ((e_w (v2 + (-1))) - 1)).toNat), .inl (M 26 (e_w (v2 + (-1))).toNat)]) (st := [.inl (e_w ((e_w (v2 + (-1))) - 1)), .inr (.inr 26)]) mqYX2_combined ml_RX2_95 (by simp [e_cat]) rfl rfl rfl dX2_priceOfSeen_77 (pc' := 80) rfl he20 ⟨Nat.le_refl _, Nat.le_refl _⟩ hmo ?_
        obtain ⟨hb21, h⟩ := h
        refine e_r_iast (j9 := (e_w ((e_w (v2 + (-1))) - 1)).toNat) (pc' := 81) rfl (Nat.le_of_ble_eq_true rfl) hb21.1 hb21.2 rfl dX2_priceOfSeen_80 rfl ?_
        refine e_r_goto (pc' := 106) dX2_priceOfSeen_81 rfl ?_
        refine e_r_iinc (pc' := 109) (loc' := [some (.inr (.inr 24)), some (.inl v1), some (.inl (e_w (v2 + (-1)))), some (.inl (e_w (v3 + 1))), some (.inl (M 25 v3.toNat))]) dX2_priceOfSeen_106 rfl rfl rfl rfl rfl ?_
        refine e_r_goto (pc' := 22) dX2_priceOfSeen_109 rfl ?_
        exact e_forget (m := [true, true, true, true, false]) h rfl
theorem wp_X2_priceOfSeen_lawDraft_123 {X : e_X} {d gn : Nat} {o : e_O} (M : e_M) (v1 v2 v3 : Int) (h : (o = (.inl (some (.inl (max 0 (min 99 v1)))), (557, gn, e_RF, M)))) : e_G X (d + 1) YX2_priceOfSeen 123 [some (.inr (.inr 24)), some (.inl v1), some (.inl v2), some (.inl v3), none] [] (557, gn, e_RF, M) o := by
  refine e_r_iconst (pc' := 124) dX2_priceOfSeen_123 rfl (by decide) ?_
  refine e_r_bipush (pc' := 126) dX2_priceOfSeen_124 rfl (by decide) ?_
  refine e_r_iload_n (pc' := 127) dX2_priceOfSeen_126 rfl rfl rfl ?_
  refine e_r_min (pc' := 130) lk_RX2_103 rfl dX2_priceOfSeen_127 rfl ?_
  refine e_r_max (pc' := 133) lk_RX2_108 rfl dX2_priceOfSeen_130 rfl ?_
  exact e_r_iret (ty := .int) rfl (e_nI _) dX2_priceOfSeen_133 h
theorem wp_X2_valueOf_law_0 {X : e_X} {d gn : Nat} {o : e_O} (M : e_M) (p1 : Int) (h : (((e_w (p1 - 1000)) < 0 → (o = (.inl (some (.inl p1)), (557, gn, e_RF, M)))) ∧ (¬ ((e_w (p1 - 1000)) < 0) → ((8 ≤ (e_w (p1 - 1000)) → (o = (.inl (some (.inl p1)), (557, gn, e_RF, M)))) ∧ (¬ (8 ≤ (e_w (p1 - 1000))) → ((0 ≤ (e_w (p1 - 1000)) ∧ (e_w (p1 - 1000)) < 8) ∧ (o = (.inl (some (.inl (M 23 (e_w (p1 - 1000)).toNat))), (557, gn, e_RF, M))))))))) : e_G X d YX2_valueOf 0 [some (.inr (.inr 20)), some (.inl p1), none] [] (557, gn, e_RF, M) o := by
  refine e_r_iload_n (pc' := 1) dX2_valueOf_0 rfl rfl rfl ?_
  refine e_r_sipush (pc' := 4) dX2_valueOf_1 rfl (by decide) ?_
  refine e_r_isub (pc' := 5) dX2_valueOf_4 rfl ?_
  refine e_r_istore_n (pc' := 6) (loc' := [some (.inr (.inr 20)), some (.inl p1), some (.inl (e_w (p1 - 1000)))]) dX2_valueOf_5 rfl rfl rfl rfl rfl ?_
  refine e_r_iload_n (pc' := 7) dX2_valueOf_6 rfl rfl rfl ?_
  obtain ⟨ht1, hf2⟩ := h
  refine e_r_if_lt (tgt := 25) (pc' := 10) dX2_valueOf_7 rfl rfl (fun c => ?_) (fun c => ?_)
  · have h := ht1 c
    refine e_r_iload_n (pc' := 26) dX2_valueOf_25 rfl rfl rfl ?_
    exact e_r_iret (ty := .int) rfl (e_nI _) dX2_valueOf_26 h
  · have h := hf2 c
    refine e_r_iload_n (pc' := 11) dX2_valueOf_10 rfl rfl rfl ?_
    refine e_r_bipush (pc' := 13) dX2_valueOf_11 rfl (by decide) ?_
    obtain ⟨ht3, hf4⟩ := h
    refine e_r_icmp_ge (tgt := 25) (pc' := 16) dX2_valueOf_13 rfl rfl (fun c => ?_) (fun c => ?_)
    · have h := ht3 c
      refine e_r_iload_n (pc' := 26) dX2_valueOf_25 rfl rfl rfl ?_
      exact e_r_iret (ty := .int) rfl (e_nI _) dX2_valueOf_26 h
    · have h := hf4 c
      refine e_r_aload_n (pc' := 17) (by decide) dX2_valueOf_16 rfl rfl rfl ?_
      refine e_r_getr (k := 3) (q := 23) (pc' := 20) cl_2 rfl (Nat.le_of_ble_eq_true rfl) rfl rfl fl_RX2_22 rfl (Nat.le_of_ble_eq_true rfl) dX2_valueOf_17 rfl ?_
      refine e_r_iload_n (pc' := 21) dX2_valueOf_20 rfl rfl rfl ?_
      obtain ⟨hb5, h⟩ := h
      refine e_r_iald (j9 := (e_w (p1 - 1000)).toNat) (pc' := 22) rfl (Nat.le_of_ble_eq_true rfl) hb5.1 hb5.2 rfl dX2_valueOf_21 rfl ?_
      refine e_r_goto (pc' := 26) dX2_valueOf_22 rfl ?_
      exact e_r_iret (ty := .int) rfl (e_nI _) dX2_valueOf_26 h
theorem wp_X2_valueOf_lawDraft_0 {X : e_X} {d gn : Nat} {o : e_O} (M : e_M) (p1 : Int) (h : (((e_w (p1 - 1000)) < 0 → (o = (.inl (some (.inl p1)), (557, gn, e_RF, M)))) ∧ (¬ ((e_w (p1 - 1000)) < 0) → ((8 ≤ (e_w (p1 - 1000)) → (o = (.inl (some (.inl p1)), (557, gn, e_RF, M)))) ∧ (¬ (8 ≤ (e_w (p1 - 1000))) → ((0 ≤ (e_w (p1 - 1000)) ∧ (e_w (p1 - 1000)) < 8) ∧ (o = (.inl (some (.inl (M 27 (e_w (p1 - 1000)).toNat))), (557, gn, e_RF, M))))))))) : e_G X d YX2_valueOf 0 [some (.inr (.inr 24)), some (.inl p1), none] [] (557, gn, e_RF, M) o := by
  refine e_r_iload_n (pc' := 1) dX2_valueOf_0 rfl rfl rfl ?_
  refine e_r_sipush (pc' := 4) dX2_valueOf_1 rfl (by decide) ?_
  refine e_r_isub (pc' := 5) dX2_valueOf_4 rfl ?_
  refine e_r_istore_n (pc' := 6) (loc' := [some (.inr (.inr 24)), some (.inl p1), some (.inl (e_w (p1 - 1000)))]) dX2_valueOf_5 rfl rfl rfl rfl rfl ?_
  refine e_r_iload_n (pc' := 7) dX2_valueOf_6 rfl rfl rfl ?_
  obtain ⟨ht1, hf2⟩ := h
  refine e_r_if_lt (tgt := 25) (pc' := 10) dX2_valueOf_7 rfl rfl (fun c => ?_) (fun c => ?_)
  · have h := ht1 c
    refine e_r_iload_n (pc' := 26) dX2_valueOf_25 rfl rfl rfl ?_
    exact e_r_iret (ty := .int) rfl (e_nI _) dX2_valueOf_26 h
  · have h := hf2 c
    refine e_r_iload_n (pc' := 11) dX2_valueOf_10 rfl rfl rfl ?_
    refine e_r_bipush (pc' := 13) dX2_valueOf_11 rfl (by decide) ?_
    obtain ⟨ht3, hf4⟩ := h
    refine e_r_icmp_ge (tgt := 25) (pc' := 16) dX2_valueOf_13 rfl rfl (fun c => ?_) (fun c => ?_)
    · have h := ht3 c
      refine e_r_iload_n (pc' := 26) dX2_valueOf_25 rfl rfl rfl ?_
      exact e_r_iret (ty := .int) rfl (e_nI _) dX2_valueOf_26 h
    · have h := hf4 c
      refine e_r_aload_n (pc' := 17) (by decide) dX2_valueOf_16 rfl rfl rfl ?_
      refine e_r_getr (k := 3) (q := 27) (pc' := 20) cl_2 rfl (Nat.le_of_ble_eq_true rfl) rfl rfl fl_RX2_22 rfl (Nat.le_of_ble_eq_true rfl) dX2_valueOf_17 rfl ?_
      refine e_r_iload_n (pc' := 21) dX2_valueOf_20 rfl rfl rfl ?_
      obtain ⟨hb5, h⟩ := h
      refine e_r_iald (j9 := (e_w (p1 - 1000)).toNat) (pc' := 22) rfl (Nat.le_of_ble_eq_true rfl) hb5.1 hb5.2 rfl dX2_valueOf_21 rfl ?_
      refine e_r_goto (pc' := 26) dX2_valueOf_22 rfl ?_
      exact e_r_iret (ty := .int) rfl (e_nI _) dX2_valueOf_26 h
theorem wp_X2_combined_0 {X : e_X} {d gn : Nat} {o : e_O} (M : e_M) (p0 p1 p2 : Int) (h : ((p0 = 2000 → (o = (.inl (some (.inl (e_w (p1 + p2)))), (557, gn, e_RF, M)))) ∧ (p0 = 2001 → (o = (.inl (some (.inl (e_w (p1 - p2)))), (557, gn, e_RF, M)))) ∧ (p0 = 2002 → (o = (.inl (some (.inl (e_w (p1 * p2)))), (557, gn, e_RF, M)))) ∧ (p0 = 2003 → ((¬ p2 = 0 → (p2 ≠ 0 ∧ (o = (.inl (some (.inl (e_w (Int.tdiv p1 p2)))), (557, gn, e_RF, M))))) ∧ (p2 = 0 → (o = (.inl (some (.inl 0)), (557, gn, e_RF, M)))))) ∧ (p0 = 2004 → ((¬ p2 = 0 → (p2 ≠ 0 ∧ (o = (.inl (some (.inl (e_w (Int.tmod p1 p2)))), (557, gn, e_RF, M))))) ∧ (p2 = 0 → (o = (.inl (some (.inl 0)), (557, gn, e_RF, M)))))) ∧ (p0 = 2005 → ((p2 < p1 → (o = (.inl (some (.inl p2)), (557, gn, e_RF, M)))) ∧ (¬ (p2 < p1) → (o = (.inl (some (.inl p1)), (557, gn, e_RF, M)))))) ∧ (p0 < 2000 ∨ 2005 < p0 → ((p1 < p2 → (o = (.inl (some (.inl p2)), (557, gn, e_RF, M)))) ∧ (¬ (p1 < p2) → (o = (.inl (some (.inl p1)), (557, gn, e_RF, M)))))))) : e_G X d YX2_combined 0 [some (.inl p0), some (.inl p1), some (.inl p2)] [] (557, gn, e_RF, M) o := by
  refine e_r_iload_n (pc' := 1) dX2_combined_0 rfl rfl rfl ?_
  obtain ⟨hk1, hk2, hk3, hk4, hk5, hk6, hd7⟩ := h
  refine e_r_table (tgt := 87) dX2_combined_1 rfl (fun j => bif Nat.beq j 0 then 40 else bif Nat.beq j 1 then 44 else bif Nat.beq j 2 then 48 else bif Nat.beq j 3 then 52 else bif Nat.beq j 4 then 64 else 76) (fun j hj => ?_) (fun j ej hj => ?_) (fun c => ?_)
  · rcases (show j = 0 ∨ j = 1 ∨ j = 2 ∨ j = 3 ∨ j = 4 ∨ j = 5 by omega) with rfl | rfl | rfl | rfl | rfl | rfl
    · exact ⟨39, rfl, rfl⟩
    · exact ⟨43, rfl, rfl⟩
    · exact ⟨47, rfl, rfl⟩
    · exact ⟨51, rfl, rfl⟩
    · exact ⟨63, rfl, rfl⟩
    · exact ⟨75, rfl, rfl⟩
  · rcases (show j = 0 ∨ j = 1 ∨ j = 2 ∨ j = 3 ∨ j = 4 ∨ j = 5 by omega) with rfl | rfl | rfl | rfl | rfl | rfl
    · have h := hk1 (by omega)
      show e_G X d YX2_combined 40 [some (.inl p0), some (.inl p1), some (.inl p2)] [] (557, gn, e_RF, M) o
      refine e_r_iload_n (pc' := 41) dX2_combined_40 rfl rfl rfl ?_
      refine e_r_iload_n (pc' := 42) dX2_combined_41 rfl rfl rfl ?_
      refine e_r_iadd (pc' := 43) dX2_combined_42 rfl ?_
      exact e_r_iret (ty := .int) rfl (e_nI _) dX2_combined_43 h
    · have h := hk2 (by omega)
      show e_G X d YX2_combined 44 [some (.inl p0), some (.inl p1), some (.inl p2)] [] (557, gn, e_RF, M) o
      refine e_r_iload_n (pc' := 45) dX2_combined_44 rfl rfl rfl ?_
      refine e_r_iload_n (pc' := 46) dX2_combined_45 rfl rfl rfl ?_
      refine e_r_isub (pc' := 47) dX2_combined_46 rfl ?_
      exact e_r_iret (ty := .int) rfl (e_nI _) dX2_combined_47 h
    · have h := hk3 (by omega)
      show e_G X d YX2_combined 48 [some (.inl p0), some (.inl p1), some (.inl p2)] [] (557, gn, e_RF, M) o
      refine e_r_iload_n (pc' := 49) dX2_combined_48 rfl rfl rfl ?_
      refine e_r_iload_n (pc' := 50) dX2_combined_49 rfl rfl rfl ?_
      refine e_r_imul (pc' := 51) dX2_combined_50 rfl ?_
      exact e_r_iret (ty := .int) rfl (e_nI _) dX2_combined_51 h
    · have h := hk4 (by omega)
      show e_G X d YX2_combined 52 [some (.inl p0), some (.inl p1), some (.inl p2)] [] (557, gn, e_RF, M) o
      refine e_r_iload_n (pc' := 53) dX2_combined_52 rfl rfl rfl ?_
      obtain ⟨ht8, hf9⟩ := h
      refine e_r_if_ne (tgt := 60) (pc' := 56) dX2_combined_53 rfl rfl (fun c => ?_) (fun c => ?_)
      · have h := ht8 c
        refine e_r_iload_n (pc' := 61) dX2_combined_60 rfl rfl rfl ?_
        refine e_r_iload_n (pc' := 62) dX2_combined_61 rfl rfl rfl ?_
        obtain ⟨hz10, h⟩ := h
        refine e_r_idiv (pc' := 63) hz10 dX2_combined_62 rfl ?_
        exact e_r_iret (ty := .int) rfl (e_nI _) dX2_combined_63 h
      · have h := hf9 c
        refine e_r_iconst (pc' := 57) dX2_combined_56 rfl (by decide) ?_
        refine e_r_goto (pc' := 63) dX2_combined_57 rfl ?_
        exact e_r_iret (ty := .int) rfl (e_nI _) dX2_combined_63 h
    · have h := hk5 (by omega)
      show e_G X d YX2_combined 64 [some (.inl p0), some (.inl p1), some (.inl p2)] [] (557, gn, e_RF, M) o
      refine e_r_iload_n (pc' := 65) dX2_combined_64 rfl rfl rfl ?_
      obtain ⟨ht11, hf12⟩ := h
      refine e_r_if_ne (tgt := 72) (pc' := 68) dX2_combined_65 rfl rfl (fun c => ?_) (fun c => ?_)
      · have h := ht11 c
        refine e_r_iload_n (pc' := 73) dX2_combined_72 rfl rfl rfl ?_
        refine e_r_iload_n (pc' := 74) dX2_combined_73 rfl rfl rfl ?_
        obtain ⟨hz13, h⟩ := h
        refine e_r_irem (pc' := 75) hz13 dX2_combined_74 rfl ?_
        exact e_r_iret (ty := .int) rfl (e_nI _) dX2_combined_75 h
      · have h := hf12 c
        refine e_r_iconst (pc' := 69) dX2_combined_68 rfl (by decide) ?_
        refine e_r_goto (pc' := 75) dX2_combined_69 rfl ?_
        exact e_r_iret (ty := .int) rfl (e_nI _) dX2_combined_75 h
    · have h := hk6 (by omega)
      show e_G X d YX2_combined 76 [some (.inl p0), some (.inl p1), some (.inl p2)] [] (557, gn, e_RF, M) o
      refine e_r_iload_n (pc' := 77) dX2_combined_76 rfl rfl rfl ?_
      refine e_r_iload_n (pc' := 78) dX2_combined_77 rfl rfl rfl ?_
      obtain ⟨ht14, hf15⟩ := h
      refine e_r_icmp_gt (tgt := 85) (pc' := 81) dX2_combined_78 rfl rfl (fun c => ?_) (fun c => ?_)
      · have h := ht14 c
        refine e_r_iload_n (pc' := 86) dX2_combined_85 rfl rfl rfl ?_
        exact e_r_iret (ty := .int) rfl (e_nI _) dX2_combined_86 h
      · have h := hf15 c
        refine e_r_iload_n (pc' := 82) dX2_combined_81 rfl rfl rfl ?_
        refine e_r_goto (pc' := 86) dX2_combined_82 rfl ?_
        exact e_r_iret (ty := .int) rfl (e_nI _) dX2_combined_86 h
  · have h := hd7 c
    refine e_r_iload_n (pc' := 88) dX2_combined_87 rfl rfl rfl ?_
    refine e_r_iload_n (pc' := 89) dX2_combined_88 rfl rfl rfl ?_
    obtain ⟨ht16, hf17⟩ := h
    refine e_r_icmp_lt (tgt := 96) (pc' := 92) dX2_combined_89 rfl rfl (fun c => ?_) (fun c => ?_)
    · have h := ht16 c
      refine e_r_iload_n (pc' := 97) dX2_combined_96 rfl rfl rfl ?_
      exact e_r_iret (ty := .int) rfl (e_nI _) dX2_combined_97 h
    · have h := hf17 c
      refine e_r_iload_n (pc' := 93) dX2_combined_92 rfl rfl rfl ?_
      refine e_r_goto (pc' := 97) dX2_combined_93 rfl ?_
      exact e_r_iret (ty := .int) rfl (e_nI _) dX2_combined_97 h
