theorem wp_X3_begin_now_0 {X : e_X} {d gn : Nat} {o : e_O} (M : e_M) (h : e_G X (d + 1) YX3_begin 17 [some (.inr (.inr 36)), some (.inl 0)] [] (557, gn, e_RF, (e_up (e_up (e_up M 36 2 0) 36 3 0) 36 4 0)) o) : e_G X (d + 1) YX3_begin 0 [some (.inr (.inr 36)), none] [] (557, gn, e_RF, M) o := by
  refine e_r_aload_n (pc' := 1) (by decide) dX3_begin_0 rfl rfl rfl ?_
  refine e_r_iconst (pc' := 2) dX3_begin_1 rfl (by decide) ?_
  refine e_r_puti (k := 2) (pc' := 5) cl_3 rfl (Nat.le_of_ble_eq_true rfl) rfl rfl fl_RX3_9 rfl (by decide +kernel) dX3_begin_2 rfl ?_
  refine e_r_aload_n (pc' := 6) (by decide) dX3_begin_5 rfl rfl rfl ?_
  refine e_r_iconst (pc' := 7) dX3_begin_6 rfl (by decide) ?_
  refine e_r_puti (k := 3) (pc' := 10) cl_3 rfl (Nat.le_of_ble_eq_true rfl) rfl rfl fl_RX3_15 rfl (by decide +kernel) dX3_begin_7 rfl ?_
  refine e_r_aload_n (pc' := 11) (by decide) dX3_begin_10 rfl rfl rfl ?_
  refine e_r_iconst (pc' := 12) dX3_begin_11 rfl (by decide) ?_
  refine e_r_puti (k := 4) (pc' := 15) cl_3 rfl (Nat.le_of_ble_eq_true rfl) rfl rfl fl_RX3_18 rfl (by decide +kernel) dX3_begin_12 rfl ?_
  refine e_r_iconst (pc' := 16) dX3_begin_15 rfl (by decide) ?_
  refine e_r_istore_n (pc' := 17) (loc' := [some (.inr (.inr 36)), some (.inl 0)]) dX3_begin_16 rfl rfl rfl rfl rfl ?_
  exact h
theorem wp_X3_begin_now_17 {X : e_X} {d gn : Nat} {o : e_O} (M : e_M) (v1 : Int) (h : ((6 ≤ v1 → ((o = (.inl none, (557, gn, e_RF, (e_cp M 10 0 42 0 12)))))) ∧ (¬ (6 ≤ v1) → ((0 ≤ v1 ∧ v1 < 6) ∧ ((0 ≤ v1 ∧ v1 < 6) ∧ ((0 ≤ v1 ∧ v1 < 6) ∧ ((0 ≤ v1 ∧ v1 < 6) ∧ ((0 ≤ v1 ∧ v1 < 6) ∧ ((0 ≤ v1 ∧ v1 < 6) ∧ e_G X (d + 1) YX3_begin 17 [some (.inr (.inr 36)), some (.inl (e_w (v1 + 1)))] [] (557, gn, e_RF, (e_up (e_up (e_up (e_up (e_up M 37 v1.toNat (M 5 v1.toNat)) 38 v1.toNat 0) 39 v1.toNat 0) 40 v1.toNat (-1)) 41 v1.toNat 0)) o))))))))) : e_G X (d + 1) YX3_begin 17 [some (.inr (.inr 36)), some (.inl v1)] [] (557, gn, e_RF, M) o := by
  refine e_r_iload_n (pc' := 18) dX3_begin_17 rfl rfl rfl ?_
  refine e_r_bipush (pc' := 20) dX3_begin_18 rfl (by decide) ?_
  obtain ⟨ht1, hf2⟩ := h
  refine e_r_icmp_ge (tgt := 72) (pc' := 23) dX3_begin_20 rfl rfl (fun c => ?_) (fun c => ?_)
  · have h := ht1 c
    refine e_r_aload_n (pc' := 73) (by decide) dX3_begin_72 rfl rfl rfl ?_
    refine e_r_getr (k := 0) (q := 4) (pc' := 76) cl_3 rfl (Nat.le_of_ble_eq_true rfl) rfl rfl fl_RX3_40 rfl (Nat.le_of_ble_eq_true rfl) dX3_begin_73 rfl ?_
    refine e_r_getr (k := 8) (q := 10) (pc' := 79) cl_8 rfl (Nat.le_of_ble_eq_true rfl) rfl rfl fl_RX3_51 rfl (Nat.le_of_ble_eq_true rfl) dX3_begin_76 rfl ?_
    refine e_r_iconst (pc' := 80) dX3_begin_79 rfl (by decide) ?_
    refine e_r_aload_n (pc' := 81) (by decide) dX3_begin_80 rfl rfl rfl ?_
    refine e_r_getr (k := 10) (q := 42) (pc' := 84) cl_3 rfl (Nat.le_of_ble_eq_true rfl) rfl rfl fl_RX3_37 rfl (Nat.le_of_ble_eq_true rfl) dX3_begin_81 rfl ?_
    refine e_r_iconst (pc' := 85) dX3_begin_84 rfl (by decide) ?_
    refine e_r_bipush (pc' := 87) dX3_begin_85 rfl (by decide) ?_
    refine e_r_copy (pc' := 90) rfl rfl (Nat.le_of_ble_eq_true rfl) (Nat.le_of_ble_eq_true rfl) (by decide) (by decide) (by decide) (by decide) (by decide) lk_RX3_52 rfl dX3_begin_87 rfl ?_
    exact e_r_vret rfl dX3_begin_90 h
  · have h := hf2 c
    refine e_r_aload_n (pc' := 24) (by decide) dX3_begin_23 rfl rfl rfl ?_
    refine e_r_getr (k := 5) (q := 37) (pc' := 27) cl_3 rfl (Nat.le_of_ble_eq_true rfl) rfl rfl fl_RX3_21 rfl (Nat.le_of_ble_eq_true rfl) dX3_begin_24 rfl ?_
    refine e_r_iload_n (pc' := 28) dX3_begin_27 rfl rfl rfl ?_
    refine e_r_aload_n (pc' := 29) (by decide) dX3_begin_28 rfl rfl rfl ?_
    refine e_r_getr (k := 0) (q := 4) (pc' := 32) cl_3 rfl (Nat.le_of_ble_eq_true rfl) rfl rfl fl_RX3_40 rfl (Nat.le_of_ble_eq_true rfl) dX3_begin_29 rfl ?_
    refine e_r_getr (k := 3) (q := 5) (pc' := 35) cl_8 rfl (Nat.le_of_ble_eq_true rfl) rfl rfl fl_RX3_48 rfl (Nat.le_of_ble_eq_true rfl) dX3_begin_32 rfl ?_
    refine e_r_iload_n (pc' := 36) dX3_begin_35 rfl rfl rfl ?_
    obtain ⟨hb3, h⟩ := h
    refine e_r_iald (j9 := v1.toNat) (pc' := 37) rfl (Nat.le_of_ble_eq_true rfl) hb3.1 hb3.2 rfl dX3_begin_36 rfl ?_
    obtain ⟨hb4, h⟩ := h
    refine e_r_iast (j9 := v1.toNat) (pc' := 38) rfl (Nat.le_of_ble_eq_true rfl) hb4.1 hb4.2 rfl dX3_begin_37 rfl ?_
    refine e_r_aload_n (pc' := 39) (by decide) dX3_begin_38 rfl rfl rfl ?_
    refine e_r_getr (k := 6) (q := 38) (pc' := 42) cl_3 rfl (Nat.le_of_ble_eq_true rfl) rfl rfl fl_RX3_25 rfl (Nat.le_of_ble_eq_true rfl) dX3_begin_39 rfl ?_
    refine e_r_iload_n (pc' := 43) dX3_begin_42 rfl rfl rfl ?_
    refine e_r_iconst (pc' := 44) dX3_begin_43 rfl (by decide) ?_
    obtain ⟨hb5, h⟩ := h
    refine e_r_iast (j9 := v1.toNat) (pc' := 45) rfl (Nat.le_of_ble_eq_true rfl) hb5.1 hb5.2 rfl dX3_begin_44 rfl ?_
    refine e_r_aload_n (pc' := 46) (by decide) dX3_begin_45 rfl rfl rfl ?_
    refine e_r_getr (k := 7) (q := 39) (pc' := 49) cl_3 rfl (Nat.le_of_ble_eq_true rfl) rfl rfl fl_RX3_28 rfl (Nat.le_of_ble_eq_true rfl) dX3_begin_46 rfl ?_
    refine e_r_iload_n (pc' := 50) dX3_begin_49 rfl rfl rfl ?_
    refine e_r_iconst (pc' := 51) dX3_begin_50 rfl (by decide) ?_
    obtain ⟨hb6, h⟩ := h
    refine e_r_iast (j9 := v1.toNat) (pc' := 52) rfl (Nat.le_of_ble_eq_true rfl) hb6.1 hb6.2 rfl dX3_begin_51 rfl ?_
    refine e_r_aload_n (pc' := 53) (by decide) dX3_begin_52 rfl rfl rfl ?_
    refine e_r_getr (k := 8) (q := 40) (pc' := 56) cl_3 rfl (Nat.le_of_ble_eq_true rfl) rfl rfl fl_RX3_31 rfl (Nat.le_of_ble_eq_true rfl) dX3_begin_53 rfl ?_
    refine e_r_iload_n (pc' := 57) dX3_begin_56 rfl rfl rfl ?_
    refine e_r_iconst (pc' := 58) dX3_begin_57 rfl (by decide) ?_
    obtain ⟨hb7, h⟩ := h
    refine e_r_iast (j9 := v1.toNat) (pc' := 59) rfl (Nat.le_of_ble_eq_true rfl) hb7.1 hb7.2 rfl dX3_begin_58 rfl ?_
    refine e_r_aload_n (pc' := 60) (by decide) dX3_begin_59 rfl rfl rfl ?_
    refine e_r_getr (k := 9) (q := 41) (pc' := 63) cl_3 rfl (Nat.le_of_ble_eq_true rfl) rfl rfl fl_RX3_34 rfl (Nat.le_of_ble_eq_true rfl) dX3_begin_60 rfl ?_
    refine e_r_iload_n (pc' := 64) dX3_begin_63 rfl rfl rfl ?_
    refine e_r_iconst (pc' := 65) dX3_begin_64 rfl (by decide) ?_
    obtain ⟨hb8, h⟩ := h
    refine e_r_iast (j9 := v1.toNat) (pc' := 66) rfl (Nat.le_of_ble_eq_true rfl) hb8.1 hb8.2 rfl dX3_begin_65 rfl ?_
    refine e_r_iinc (pc' := 69) (loc' := [some (.inr (.inr 36)), some (.inl (e_w (v1 + 1)))]) dX3_begin_66 rfl rfl rfl rfl rfl ?_
    refine e_r_goto (pc' := 17) dX3_begin_69 rfl ?_
    exact h
theorem wp_X3_begin_trial_0 {X : e_X} {d gn : Nat} {o : e_O} (M : e_M) (h : e_G X (d + 1) YX3_begin 17 [some (.inr (.inr 43)), some (.inl 0)] [] (557, gn, e_RF, (e_up (e_up (e_up M 43 2 0) 43 3 0) 43 4 0)) o) : e_G X (d + 1) YX3_begin 0 [some (.inr (.inr 43)), none] [] (557, gn, e_RF, M) o := by
  refine e_r_aload_n (pc' := 1) (by decide) dX3_begin_0 rfl rfl rfl ?_
  refine e_r_iconst (pc' := 2) dX3_begin_1 rfl (by decide) ?_
  refine e_r_puti (k := 2) (pc' := 5) cl_3 rfl (Nat.le_of_ble_eq_true rfl) rfl rfl fl_RX3_9 rfl (by decide +kernel) dX3_begin_2 rfl ?_
  refine e_r_aload_n (pc' := 6) (by decide) dX3_begin_5 rfl rfl rfl ?_
  refine e_r_iconst (pc' := 7) dX3_begin_6 rfl (by decide) ?_
  refine e_r_puti (k := 3) (pc' := 10) cl_3 rfl (Nat.le_of_ble_eq_true rfl) rfl rfl fl_RX3_15 rfl (by decide +kernel) dX3_begin_7 rfl ?_
  refine e_r_aload_n (pc' := 11) (by decide) dX3_begin_10 rfl rfl rfl ?_
  refine e_r_iconst (pc' := 12) dX3_begin_11 rfl (by decide) ?_
  refine e_r_puti (k := 4) (pc' := 15) cl_3 rfl (Nat.le_of_ble_eq_true rfl) rfl rfl fl_RX3_18 rfl (by decide +kernel) dX3_begin_12 rfl ?_
  refine e_r_iconst (pc' := 16) dX3_begin_15 rfl (by decide) ?_
  refine e_r_istore_n (pc' := 17) (loc' := [some (.inr (.inr 43)), some (.inl 0)]) dX3_begin_16 rfl rfl rfl rfl rfl ?_
  exact h
theorem wp_X3_begin_trial_17 {X : e_X} {d gn : Nat} {o : e_O} (M : e_M) (v1 : Int) (h : ((6 ≤ v1 → ((o = (.inl none, (557, gn, e_RF, (e_cp M 10 0 49 0 12)))))) ∧ (¬ (6 ≤ v1) → ((0 ≤ v1 ∧ v1 < 6) ∧ ((0 ≤ v1 ∧ v1 < 6) ∧ ((0 ≤ v1 ∧ v1 < 6) ∧ ((0 ≤ v1 ∧ v1 < 6) ∧ ((0 ≤ v1 ∧ v1 < 6) ∧ ((0 ≤ v1 ∧ v1 < 6) ∧ e_G X (d + 1) YX3_begin 17 [some (.inr (.inr 43)), some (.inl (e_w (v1 + 1)))] [] (557, gn, e_RF, (e_up (e_up (e_up (e_up (e_up M 44 v1.toNat (M 5 v1.toNat)) 45 v1.toNat 0) 46 v1.toNat 0) 47 v1.toNat (-1)) 48 v1.toNat 0)) o))))))))) : e_G X (d + 1) YX3_begin 17 [some (.inr (.inr 43)), some (.inl v1)] [] (557, gn, e_RF, M) o := by
  refine e_r_iload_n (pc' := 18) dX3_begin_17 rfl rfl rfl ?_
  refine e_r_bipush (pc' := 20) dX3_begin_18 rfl (by decide) ?_
  obtain ⟨ht1, hf2⟩ := h
  refine e_r_icmp_ge (tgt := 72) (pc' := 23) dX3_begin_20 rfl rfl (fun c => ?_) (fun c => ?_)
  · have h := ht1 c
    refine e_r_aload_n (pc' := 73) (by decide) dX3_begin_72 rfl rfl rfl ?_
    refine e_r_getr (k := 0) (q := 4) (pc' := 76) cl_3 rfl (Nat.le_of_ble_eq_true rfl) rfl rfl fl_RX3_40 rfl (Nat.le_of_ble_eq_true rfl) dX3_begin_73 rfl ?_
    refine e_r_getr (k := 8) (q := 10) (pc' := 79) cl_8 rfl (Nat.le_of_ble_eq_true rfl) rfl rfl fl_RX3_51 rfl (Nat.le_of_ble_eq_true rfl) dX3_begin_76 rfl ?_
    refine e_r_iconst (pc' := 80) dX3_begin_79 rfl (by decide) ?_
    refine e_r_aload_n (pc' := 81) (by decide) dX3_begin_80 rfl rfl rfl ?_
    refine e_r_getr (k := 10) (q := 49) (pc' := 84) cl_3 rfl (Nat.le_of_ble_eq_true rfl) rfl rfl fl_RX3_37 rfl (Nat.le_of_ble_eq_true rfl) dX3_begin_81 rfl ?_
    refine e_r_iconst (pc' := 85) dX3_begin_84 rfl (by decide) ?_
    refine e_r_bipush (pc' := 87) dX3_begin_85 rfl (by decide) ?_
    refine e_r_copy (pc' := 90) rfl rfl (Nat.le_of_ble_eq_true rfl) (Nat.le_of_ble_eq_true rfl) (by decide) (by decide) (by decide) (by decide) (by decide) lk_RX3_52 rfl dX3_begin_87 rfl ?_
    exact e_r_vret rfl dX3_begin_90 h
  · have h := hf2 c
    refine e_r_aload_n (pc' := 24) (by decide) dX3_begin_23 rfl rfl rfl ?_
    refine e_r_getr (k := 5) (q := 44) (pc' := 27) cl_3 rfl (Nat.le_of_ble_eq_true rfl) rfl rfl fl_RX3_21 rfl (Nat.le_of_ble_eq_true rfl) dX3_begin_24 rfl ?_
    refine e_r_iload_n (pc' := 28) dX3_begin_27 rfl rfl rfl ?_
    refine e_r_aload_n (pc' := 29) (by decide) dX3_begin_28 rfl rfl rfl ?_
    refine e_r_getr (k := 0) (q := 4) (pc' := 32) cl_3 rfl (Nat.le_of_ble_eq_true rfl) rfl rfl fl_RX3_40 rfl (Nat.le_of_ble_eq_true rfl) dX3_begin_29 rfl ?_
    refine e_r_getr (k := 3) (q := 5) (pc' := 35) cl_8 rfl (Nat.le_of_ble_eq_true rfl) rfl rfl fl_RX3_48 rfl (Nat.le_of_ble_eq_true rfl) dX3_begin_32 rfl ?_
    refine e_r_iload_n (pc' := 36) dX3_begin_35 rfl rfl rfl ?_
    obtain ⟨hb3, h⟩ := h
    refine e_r_iald (j9 := v1.toNat) (pc' := 37) rfl (Nat.le_of_ble_eq_true rfl) hb3.1 hb3.2 rfl dX3_begin_36 rfl ?_
    obtain ⟨hb4, h⟩ := h
    refine e_r_iast (j9 := v1.toNat) (pc' := 38) rfl (Nat.le_of_ble_eq_true rfl) hb4.1 hb4.2 rfl dX3_begin_37 rfl ?_
    refine e_r_aload_n (pc' := 39) (by decide) dX3_begin_38 rfl rfl rfl ?_
    refine e_r_getr (k := 6) (q := 45) (pc' := 42) cl_3 rfl (Nat.le_of_ble_eq_true rfl) rfl rfl fl_RX3_25 rfl (Nat.le_of_ble_eq_true rfl) dX3_begin_39 rfl ?_
    refine e_r_iload_n (pc' := 43) dX3_begin_42 rfl rfl rfl ?_
    refine e_r_iconst (pc' := 44) dX3_begin_43 rfl (by decide) ?_
    obtain ⟨hb5, h⟩ := h
    refine e_r_iast (j9 := v1.toNat) (pc' := 45) rfl (Nat.le_of_ble_eq_true rfl) hb5.1 hb5.2 rfl dX3_begin_44 rfl ?_
    refine e_r_aload_n (pc' := 46) (by decide) dX3_begin_45 rfl rfl rfl ?_
    refine e_r_getr (k := 7) (q := 46) (pc' := 49) cl_3 rfl (Nat.le_of_ble_eq_true rfl) rfl rfl fl_RX3_28 rfl (Nat.le_of_ble_eq_true rfl) dX3_begin_46 rfl ?_
    refine e_r_iload_n (pc' := 50) dX3_begin_49 rfl rfl rfl ?_
    refine e_r_iconst (pc' := 51) dX3_begin_50 rfl (by decide) ?_
    obtain ⟨hb6, h⟩ := h
    refine e_r_iast (j9 := v1.toNat) (pc' := 52) rfl (Nat.le_of_ble_eq_true rfl) hb6.1 hb6.2 rfl dX3_begin_51 rfl ?_
    refine e_r_aload_n (pc' := 53) (by decide) dX3_begin_52 rfl rfl rfl ?_
    refine e_r_getr (k := 8) (q := 47) (pc' := 56) cl_3 rfl (Nat.le_of_ble_eq_true rfl) rfl rfl fl_RX3_31 rfl (Nat.le_of_ble_eq_true rfl) dX3_begin_53 rfl ?_
    refine e_r_iload_n (pc' := 57) dX3_begin_56 rfl rfl rfl ?_
    refine e_r_iconst (pc' := 58) dX3_begin_57 rfl (by decide) ?_
    obtain ⟨hb7, h⟩ := h
    refine e_r_iast (j9 := v1.toNat) (pc' := 59) rfl (Nat.le_of_ble_eq_true rfl) hb7.1 hb7.2 rfl dX3_begin_58 rfl ?_
    refine e_r_aload_n (pc' := 60) (by decide) dX3_begin_59 rfl rfl rfl ?_
    refine e_r_getr (k := 9) (q := 48) (pc' := 63) cl_3 rfl (Nat.le_of_ble_eq_true rfl) rfl rfl fl_RX3_34 rfl (Nat.le_of_ble_eq_true rfl) dX3_begin_60 rfl ?_
    refine e_r_iload_n (pc' := 64) dX3_begin_63 rfl rfl rfl ?_
    refine e_r_iconst (pc' := 65) dX3_begin_64 rfl (by decide) ?_
    obtain ⟨hb8, h⟩ := h
    refine e_r_iast (j9 := v1.toNat) (pc' := 66) rfl (Nat.le_of_ble_eq_true rfl) hb8.1 hb8.2 rfl dX3_begin_65 rfl ?_
    refine e_r_iinc (pc' := 69) (loc' := [some (.inr (.inr 43)), some (.inl (e_w (v1 + 1)))]) dX3_begin_66 rfl rfl rfl rfl rfl ?_
    refine e_r_goto (pc' := 17) dX3_begin_69 rfl ?_
    exact h
theorem wp_X3_copyFrom_trial_0 {X : e_X} {d gn : Nat} {o : e_O} (M : e_M) (h : (((((((o = (.inl none, (557, gn, e_RF, (e_cp (e_cp (e_cp (e_cp (e_cp (e_cp (e_up (e_up (e_up M 43 2 (M 36 2)) 43 3 ((e_up M 43 2 (M 36 2)) 36 3)) 43 4 ((e_up (e_up M 43 2 (M 36 2)) 43 3 ((e_up M 43 2 (M 36 2)) 36 3)) 36 4)) 37 0 44 0 6) 38 0 45 0 6) 39 0 46 0 6) 40 0 47 0 6) 41 0 48 0 6) 42 0 49 0 12))))))))))) : e_G X (d + 1) YX3_copyFrom 0 [some (.inr (.inr 43)), some (.inr (.inr 36))] [] (557, gn, e_RF, M) o := by
  refine e_r_aload_n (pc' := 1) (by decide) dX3_copyFrom_0 rfl rfl rfl ?_
  refine e_r_aload_n (pc' := 2) (by decide) dX3_copyFrom_1 rfl rfl rfl ?_
  refine e_r_geti (k := 2) (pc' := 5) cl_3 rfl (Nat.le_of_ble_eq_true rfl) rfl rfl fl_RX3_9 dX3_copyFrom_2 rfl ?_
  refine e_r_puti (k := 2) (pc' := 8) cl_3 rfl (Nat.le_of_ble_eq_true rfl) rfl rfl fl_RX3_9 rfl (by decide +kernel) dX3_copyFrom_5 rfl ?_
  refine e_r_aload_n (pc' := 9) (by decide) dX3_copyFrom_8 rfl rfl rfl ?_
  refine e_r_aload_n (pc' := 10) (by decide) dX3_copyFrom_9 rfl rfl rfl ?_
  refine e_r_geti (k := 3) (pc' := 13) cl_3 rfl (Nat.le_of_ble_eq_true rfl) rfl rfl fl_RX3_15 dX3_copyFrom_10 rfl ?_
  refine e_r_puti (k := 3) (pc' := 16) cl_3 rfl (Nat.le_of_ble_eq_true rfl) rfl rfl fl_RX3_15 rfl (by decide +kernel) dX3_copyFrom_13 rfl ?_
  refine e_r_aload_n (pc' := 17) (by decide) dX3_copyFrom_16 rfl rfl rfl ?_
  refine e_r_aload_n (pc' := 18) (by decide) dX3_copyFrom_17 rfl rfl rfl ?_
  refine e_r_geti (k := 4) (pc' := 21) cl_3 rfl (Nat.le_of_ble_eq_true rfl) rfl rfl fl_RX3_18 dX3_copyFrom_18 rfl ?_
  refine e_r_puti (k := 4) (pc' := 24) cl_3 rfl (Nat.le_of_ble_eq_true rfl) rfl rfl fl_RX3_18 rfl (by decide +kernel) dX3_copyFrom_21 rfl ?_
  refine e_r_aload_n (pc' := 25) (by decide) dX3_copyFrom_24 rfl rfl rfl ?_
  refine e_r_getr (k := 5) (q := 37) (pc' := 28) cl_3 rfl (Nat.le_of_ble_eq_true rfl) rfl rfl fl_RX3_21 rfl (Nat.le_of_ble_eq_true rfl) dX3_copyFrom_25 rfl ?_
  refine e_r_iconst (pc' := 29) dX3_copyFrom_28 rfl (by decide) ?_
  refine e_r_aload_n (pc' := 30) (by decide) dX3_copyFrom_29 rfl rfl rfl ?_
  refine e_r_getr (k := 5) (q := 44) (pc' := 33) cl_3 rfl (Nat.le_of_ble_eq_true rfl) rfl rfl fl_RX3_21 rfl (Nat.le_of_ble_eq_true rfl) dX3_copyFrom_30 rfl ?_
  refine e_r_iconst (pc' := 34) dX3_copyFrom_33 rfl (by decide) ?_
  refine e_r_bipush (pc' := 36) dX3_copyFrom_34 rfl (by decide) ?_
  refine e_r_copy (pc' := 39) rfl rfl (Nat.le_of_ble_eq_true rfl) (Nat.le_of_ble_eq_true rfl) (by decide) (by decide) (by decide) (by decide) (by decide) lk_RX3_52 rfl dX3_copyFrom_36 rfl ?_
  refine e_r_aload_n (pc' := 40) (by decide) dX3_copyFrom_39 rfl rfl rfl ?_
  refine e_r_getr (k := 6) (q := 38) (pc' := 43) cl_3 rfl (Nat.le_of_ble_eq_true rfl) rfl rfl fl_RX3_25 rfl (Nat.le_of_ble_eq_true rfl) dX3_copyFrom_40 rfl ?_
  refine e_r_iconst (pc' := 44) dX3_copyFrom_43 rfl (by decide) ?_
  refine e_r_aload_n (pc' := 45) (by decide) dX3_copyFrom_44 rfl rfl rfl ?_
  refine e_r_getr (k := 6) (q := 45) (pc' := 48) cl_3 rfl (Nat.le_of_ble_eq_true rfl) rfl rfl fl_RX3_25 rfl (Nat.le_of_ble_eq_true rfl) dX3_copyFrom_45 rfl ?_
  refine e_r_iconst (pc' := 49) dX3_copyFrom_48 rfl (by decide) ?_
  refine e_r_bipush (pc' := 51) dX3_copyFrom_49 rfl (by decide) ?_
  refine e_r_copy (pc' := 54) rfl rfl (Nat.le_of_ble_eq_true rfl) (Nat.le_of_ble_eq_true rfl) (by decide) (by decide) (by decide) (by decide) (by decide) lk_RX3_52 rfl dX3_copyFrom_51 rfl ?_
  refine e_r_aload_n (pc' := 55) (by decide) dX3_copyFrom_54 rfl rfl rfl ?_
  refine e_r_getr (k := 7) (q := 39) (pc' := 58) cl_3 rfl (Nat.le_of_ble_eq_true rfl) rfl rfl fl_RX3_28 rfl (Nat.le_of_ble_eq_true rfl) dX3_copyFrom_55 rfl ?_
  refine e_r_iconst (pc' := 59) dX3_copyFrom_58 rfl (by decide) ?_
  refine e_r_aload_n (pc' := 60) (by decide) dX3_copyFrom_59 rfl rfl rfl ?_
  refine e_r_getr (k := 7) (q := 46) (pc' := 63) cl_3 rfl (Nat.le_of_ble_eq_true rfl) rfl rfl fl_RX3_28 rfl (Nat.le_of_ble_eq_true rfl) dX3_copyFrom_60 rfl ?_
  refine e_r_iconst (pc' := 64) dX3_copyFrom_63 rfl (by decide) ?_
  refine e_r_bipush (pc' := 66) dX3_copyFrom_64 rfl (by decide) ?_
  refine e_r_copy (pc' := 69) rfl rfl (Nat.le_of_ble_eq_true rfl) (Nat.le_of_ble_eq_true rfl) (by decide) (by decide) (by decide) (by decide) (by decide) lk_RX3_52 rfl dX3_copyFrom_66 rfl ?_
  refine e_r_aload_n (pc' := 70) (by decide) dX3_copyFrom_69 rfl rfl rfl ?_
  refine e_r_getr (k := 8) (q := 40) (pc' := 73) cl_3 rfl (Nat.le_of_ble_eq_true rfl) rfl rfl fl_RX3_31 rfl (Nat.le_of_ble_eq_true rfl) dX3_copyFrom_70 rfl ?_
  refine e_r_iconst (pc' := 74) dX3_copyFrom_73 rfl (by decide) ?_
  refine e_r_aload_n (pc' := 75) (by decide) dX3_copyFrom_74 rfl rfl rfl ?_
  refine e_r_getr (k := 8) (q := 47) (pc' := 78) cl_3 rfl (Nat.le_of_ble_eq_true rfl) rfl rfl fl_RX3_31 rfl (Nat.le_of_ble_eq_true rfl) dX3_copyFrom_75 rfl ?_
  refine e_r_iconst (pc' := 79) dX3_copyFrom_78 rfl (by decide) ?_
  refine e_r_bipush (pc' := 81) dX3_copyFrom_79 rfl (by decide) ?_
  refine e_r_copy (pc' := 84) rfl rfl (Nat.le_of_ble_eq_true rfl) (Nat.le_of_ble_eq_true rfl) (by decide) (by decide) (by decide) (by decide) (by decide) lk_RX3_52 rfl dX3_copyFrom_81 rfl ?_
  refine e_r_aload_n (pc' := 85) (by decide) dX3_copyFrom_84 rfl rfl rfl ?_
  refine e_r_getr (k := 9) (q := 41) (pc' := 88) cl_3 rfl (Nat.le_of_ble_eq_true rfl) rfl rfl fl_RX3_34 rfl (Nat.le_of_ble_eq_true rfl) dX3_copyFrom_85 rfl ?_
  refine e_r_iconst (pc' := 89) dX3_copyFrom_88 rfl (by decide) ?_
  refine e_r_aload_n (pc' := 90) (by decide) dX3_copyFrom_89 rfl rfl rfl ?_
  refine e_r_getr (k := 9) (q := 48) (pc' := 93) cl_3 rfl (Nat.le_of_ble_eq_true rfl) rfl rfl fl_RX3_34 rfl (Nat.le_of_ble_eq_true rfl) dX3_copyFrom_90 rfl ?_
  refine e_r_iconst (pc' := 94) dX3_copyFrom_93 rfl (by decide) ?_
  refine e_r_bipush (pc' := 96) dX3_copyFrom_94 rfl (by decide) ?_
  refine e_r_copy (pc' := 99) rfl rfl (Nat.le_of_ble_eq_true rfl) (Nat.le_of_ble_eq_true rfl) (by decide) (by decide) (by decide) (by decide) (by decide) lk_RX3_52 rfl dX3_copyFrom_96 rfl ?_
  refine e_r_aload_n (pc' := 100) (by decide) dX3_copyFrom_99 rfl rfl rfl ?_
  refine e_r_getr (k := 10) (q := 42) (pc' := 103) cl_3 rfl (Nat.le_of_ble_eq_true rfl) rfl rfl fl_RX3_37 rfl (Nat.le_of_ble_eq_true rfl) dX3_copyFrom_100 rfl ?_
  refine e_r_iconst (pc' := 104) dX3_copyFrom_103 rfl (by decide) ?_
  refine e_r_aload_n (pc' := 105) (by decide) dX3_copyFrom_104 rfl rfl rfl ?_
  refine e_r_getr (k := 10) (q := 49) (pc' := 108) cl_3 rfl (Nat.le_of_ble_eq_true rfl) rfl rfl fl_RX3_37 rfl (Nat.le_of_ble_eq_true rfl) dX3_copyFrom_105 rfl ?_
  refine e_r_iconst (pc' := 109) dX3_copyFrom_108 rfl (by decide) ?_
  refine e_r_bipush (pc' := 111) dX3_copyFrom_109 rfl (by decide) ?_
  refine e_r_copy (pc' := 114) rfl rfl (Nat.le_of_ble_eq_true rfl) (Nat.le_of_ble_eq_true rfl) (by decide) (by decide) (by decide) (by decide) (by decide) lk_RX3_52 rfl dX3_copyFrom_111 rfl ?_
  exact e_r_vret rfl dX3_copyFrom_114 h
theorem wp_X3_saveTo_now_0 {X : e_X} {d gn : Nat} {o : e_O} {n9 : Nat} {q0 : Nat} (hq0 : e_SH q0 = (20, n9)) (kq0 : q0 ≤ 557) (zq0 : q0 ≠ 0) (M : e_M) (p2 : Int) (h : (0 ≤ p2 ∧ p2 + 6 ≤ (n9 : Int) ∧ (0 ≤ (e_w (p2 + 6)) ∧ (e_w (p2 + 6)) + 6 ≤ (n9 : Int) ∧ (0 ≤ (e_w (p2 + 12)) ∧ (e_w (p2 + 12)) + 6 ≤ (n9 : Int) ∧ (0 ≤ (e_w (p2 + 18)) ∧ (e_w (p2 + 18)) + 6 ≤ (n9 : Int) ∧ (0 ≤ (e_w (p2 + 24)) ∧ (e_w (p2 + 24)) + 6 ≤ (n9 : Int) ∧ (0 ≤ (e_w (p2 + 30)) ∧ (e_w (p2 + 30)) + 12 ≤ (n9 : Int) ∧ ((0 ≤ (e_w ((e_w (p2 + 45)) - 3)) ∧ (e_w ((e_w (p2 + 45)) - 3)) < (n9 : Int)) ∧ ((0 ≤ (e_w ((e_w (p2 + 45)) - 2)) ∧ (e_w ((e_w (p2 + 45)) - 2)) < (n9 : Int)) ∧ ((0 ≤ (e_w ((e_w (p2 + 45)) - 1)) ∧ (e_w ((e_w (p2 + 45)) - 1)) < (n9 : Int)) ∧ (o = (.inl none, (557, gn, e_RF, (e_up (e_up (e_up (e_cp (e_cp (e_cp (e_cp (e_cp (e_cp M 37 0 q0 p2.toNat 6) 38 0 q0 (e_w (p2 + 6)).toNat 6) 39 0 q0 (e_w (p2 + 12)).toNat 6) 40 0 q0 (e_w (p2 + 18)).toNat 6) 41 0 q0 (e_w (p2 + 24)).toNat 6) 42 0 q0 (e_w (p2 + 30)).toNat 12) q0 (e_w ((e_w (p2 + 45)) - 3)).toNat ((e_cp (e_cp (e_cp (e_cp (e_cp (e_cp M 37 0 q0 p2.toNat 6) 38 0 q0 (e_w (p2 + 6)).toNat 6) 39 0 q0 (e_w (p2 + 12)).toNat 6) 40 0 q0 (e_w (p2 + 18)).toNat 6) 41 0 q0 (e_w (p2 + 24)).toNat 6) 42 0 q0 (e_w (p2 + 30)).toNat 12) 36 2)) q0 (e_w ((e_w (p2 + 45)) - 2)).toNat ((e_up (e_cp (e_cp (e_cp (e_cp (e_cp (e_cp M 37 0 q0 p2.toNat 6) 38 0 q0 (e_w (p2 + 6)).toNat 6) 39 0 q0 (e_w (p2 + 12)).toNat 6) 40 0 q0 (e_w (p2 + 18)).toNat 6) 41 0 q0 (e_w (p2 + 24)).toNat 6) 42 0 q0 (e_w (p2 + 30)).toNat 12) q0 (e_w ((e_w (p2 + 45)) - 3)).toNat ((e_cp (e_cp (e_cp (e_cp (e_cp (e_cp M 37 0 q0 p2.toNat 6) 38 0 q0 (e_w (p2 + 6)).toNat 6) 39 0 q0 (e_w (p2 + 12)).toNat 6) 40 0 q0 (e_w (p2 + 18)).toNat 6) 41 0 q0 (e_w (p2 + 24)).toNat 6) 42 0 q0 (e_w (p2 + 30)).toNat 12) 36 2)) 36 3)) q0 (e_w ((e_w (p2 + 45)) - 1)).toNat ((e_up (e_up (e_cp (e_cp (e_cp (e_cp (e_cp (e_cp M 37 0 q0 p2.toNat 6) 38 0 q0 (e_w (p2 + 6)).toNat 6) 39 0 q0 (e_w (p2 + 12)).toNat 6) 40 0 q0 (e_w (p2 + 18)).toNat 6) 41 0 q0 (e_w (p2 + 24)).toNat 6) 42 0 q0 (e_w (p2 + 30)).toNat 12) q0 (e_w ((e_w (p2 + 45)) - 3)).toNat ((e_cp (e_cp (e_cp (e_cp (e_cp (e_cp M 37 0 q0 p2.toNat 6) 38 0 q0 (e_w (p2 + 6)).toNat 6) 39 0 q0 (e_w (p2 + 12)).toNat 6) 40 0 q0 (e_w (p2 + 18)).toNat 6) 41 0 q0 (e_w (p2 + 24)).toNat 6) 42 0 q0 (e_w (p2 + 30)).toNat 12) 36 2)) q0 (e_w ((e_w (p2 + 45)) - 2)).toNat ((e_up (e_cp (e_cp (e_cp (e_cp (e_cp (e_cp M 37 0 q0 p2.toNat 6) 38 0 q0 (e_w (p2 + 6)).toNat 6) 39 0 q0 (e_w (p2 + 12)).toNat 6) 40 0 q0 (e_w (p2 + 18)).toNat 6) 41 0 q0 (e_w (p2 + 24)).toNat 6) 42 0 q0 (e_w (p2 + 30)).toNat 12) q0 (e_w ((e_w (p2 + 45)) - 3)).toNat ((e_cp (e_cp (e_cp (e_cp (e_cp (e_cp M 37 0 q0 p2.toNat 6) 38 0 q0 (e_w (p2 + 6)).toNat 6) 39 0 q0 (e_w (p2 + 12)).toNat 6) 40 0 q0 (e_w (p2 + 18)).toNat 6) 41 0 q0 (e_w (p2 + 24)).toNat 6) 42 0 q0 (e_w (p2 + 30)).toNat 12) 36 2)) 36 3)) 36 4))))))))))))))) : e_G X (d + 1) YX3_saveTo 0 [some (.inr (.inr 36)), some (.inr (.inr q0)), some (.inl p2)] [] (557, gn, e_RF, M) o := by
  refine e_r_aload_n (pc' := 1) (by decide) dX3_saveTo_0 rfl rfl rfl ?_
  refine e_r_getr (k := 5) (q := 37) (pc' := 4) cl_3 rfl (Nat.le_of_ble_eq_true rfl) rfl rfl fl_RX3_21 rfl (Nat.le_of_ble_eq_true rfl) dX3_saveTo_1 rfl ?_
  refine e_r_iconst (pc' := 5) dX3_saveTo_4 rfl (by decide) ?_
  refine e_r_aload_n (pc' := 6) zq0 dX3_saveTo_5 rfl rfl rfl ?_
  refine e_r_iload_n (pc' := 7) dX3_saveTo_6 rfl rfl rfl ?_
  refine e_r_bipush (pc' := 9) dX3_saveTo_7 rfl (by decide) ?_
  obtain ⟨hc1, hc2, h⟩ := h
  refine e_r_copy (pc' := 12) rfl hq0 (Nat.le_of_ble_eq_true rfl) kq0 (by decide) hc1 (by decide) (by decide) hc2 lk_RX3_52 rfl dX3_saveTo_9 rfl ?_
  refine e_r_aload_n (pc' := 13) (by decide) dX3_saveTo_12 rfl rfl rfl ?_
  refine e_r_getr (k := 6) (q := 38) (pc' := 16) cl_3 rfl (Nat.le_of_ble_eq_true rfl) rfl rfl fl_RX3_25 rfl (Nat.le_of_ble_eq_true rfl) dX3_saveTo_13 rfl ?_
  refine e_r_iconst (pc' := 17) dX3_saveTo_16 rfl (by decide) ?_
  refine e_r_aload_n (pc' := 18) zq0 dX3_saveTo_17 rfl rfl rfl ?_
  refine e_r_iload_n (pc' := 19) dX3_saveTo_18 rfl rfl rfl ?_
  refine e_r_bipush (pc' := 21) dX3_saveTo_19 rfl (by decide) ?_
  refine e_r_iadd (pc' := 22) dX3_saveTo_21 rfl ?_
  refine e_r_bipush (pc' := 24) dX3_saveTo_22 rfl (by decide) ?_
  obtain ⟨hc3, hc4, h⟩ := h
  refine e_r_copy (pc' := 27) rfl hq0 (Nat.le_of_ble_eq_true rfl) kq0 (by decide) hc3 (by decide) (by decide) hc4 lk_RX3_52 rfl dX3_saveTo_24 rfl ?_
  refine e_r_aload_n (pc' := 28) (by decide) dX3_saveTo_27 rfl rfl rfl ?_
  refine e_r_getr (k := 7) (q := 39) (pc' := 31) cl_3 rfl (Nat.le_of_ble_eq_true rfl) rfl rfl fl_RX3_28 rfl (Nat.le_of_ble_eq_true rfl) dX3_saveTo_28 rfl ?_
  refine e_r_iconst (pc' := 32) dX3_saveTo_31 rfl (by decide) ?_
  refine e_r_aload_n (pc' := 33) zq0 dX3_saveTo_32 rfl rfl rfl ?_
  refine e_r_iload_n (pc' := 34) dX3_saveTo_33 rfl rfl rfl ?_
  refine e_r_bipush (pc' := 36) dX3_saveTo_34 rfl (by decide) ?_
  refine e_r_iadd (pc' := 37) dX3_saveTo_36 rfl ?_
  refine e_r_bipush (pc' := 39) dX3_saveTo_37 rfl (by decide) ?_
  obtain ⟨hc5, hc6, h⟩ := h
  refine e_r_copy (pc' := 42) rfl hq0 (Nat.le_of_ble_eq_true rfl) kq0 (by decide) hc5 (by decide) (by decide) hc6 lk_RX3_52 rfl dX3_saveTo_39 rfl ?_
  refine e_r_aload_n (pc' := 43) (by decide) dX3_saveTo_42 rfl rfl rfl ?_
  refine e_r_getr (k := 8) (q := 40) (pc' := 46) cl_3 rfl (Nat.le_of_ble_eq_true rfl) rfl rfl fl_RX3_31 rfl (Nat.le_of_ble_eq_true rfl) dX3_saveTo_43 rfl ?_
  refine e_r_iconst (pc' := 47) dX3_saveTo_46 rfl (by decide) ?_
  refine e_r_aload_n (pc' := 48) zq0 dX3_saveTo_47 rfl rfl rfl ?_
  refine e_r_iload_n (pc' := 49) dX3_saveTo_48 rfl rfl rfl ?_
  refine e_r_bipush (pc' := 51) dX3_saveTo_49 rfl (by decide) ?_
  refine e_r_iadd (pc' := 52) dX3_saveTo_51 rfl ?_
  refine e_r_bipush (pc' := 54) dX3_saveTo_52 rfl (by decide) ?_
  obtain ⟨hc7, hc8, h⟩ := h
  refine e_r_copy (pc' := 57) rfl hq0 (Nat.le_of_ble_eq_true rfl) kq0 (by decide) hc7 (by decide) (by decide) hc8 lk_RX3_52 rfl dX3_saveTo_54 rfl ?_
  refine e_r_aload_n (pc' := 58) (by decide) dX3_saveTo_57 rfl rfl rfl ?_
  refine e_r_getr (k := 9) (q := 41) (pc' := 61) cl_3 rfl (Nat.le_of_ble_eq_true rfl) rfl rfl fl_RX3_34 rfl (Nat.le_of_ble_eq_true rfl) dX3_saveTo_58 rfl ?_
  refine e_r_iconst (pc' := 62) dX3_saveTo_61 rfl (by decide) ?_
  refine e_r_aload_n (pc' := 63) zq0 dX3_saveTo_62 rfl rfl rfl ?_
  refine e_r_iload_n (pc' := 64) dX3_saveTo_63 rfl rfl rfl ?_
  refine e_r_bipush (pc' := 66) dX3_saveTo_64 rfl (by decide) ?_
  refine e_r_iadd (pc' := 67) dX3_saveTo_66 rfl ?_
  refine e_r_bipush (pc' := 69) dX3_saveTo_67 rfl (by decide) ?_
  obtain ⟨hc9, hc10, h⟩ := h
  refine e_r_copy (pc' := 72) rfl hq0 (Nat.le_of_ble_eq_true rfl) kq0 (by decide) hc9 (by decide) (by decide) hc10 lk_RX3_52 rfl dX3_saveTo_69 rfl ?_
  refine e_r_aload_n (pc' := 73) (by decide) dX3_saveTo_72 rfl rfl rfl ?_
  refine e_r_getr (k := 10) (q := 42) (pc' := 76) cl_3 rfl (Nat.le_of_ble_eq_true rfl) rfl rfl fl_RX3_37 rfl (Nat.le_of_ble_eq_true rfl) dX3_saveTo_73 rfl ?_
  refine e_r_iconst (pc' := 77) dX3_saveTo_76 rfl (by decide) ?_
  refine e_r_aload_n (pc' := 78) zq0 dX3_saveTo_77 rfl rfl rfl ?_
  refine e_r_iload_n (pc' := 79) dX3_saveTo_78 rfl rfl rfl ?_
  refine e_r_bipush (pc' := 81) dX3_saveTo_79 rfl (by decide) ?_
  refine e_r_iadd (pc' := 82) dX3_saveTo_81 rfl ?_
  refine e_r_bipush (pc' := 84) dX3_saveTo_82 rfl (by decide) ?_
  obtain ⟨hc11, hc12, h⟩ := h
  refine e_r_copy (pc' := 87) rfl hq0 (Nat.le_of_ble_eq_true rfl) kq0 (by decide) hc11 (by decide) (by decide) hc12 lk_RX3_52 rfl dX3_saveTo_84 rfl ?_
  refine e_r_aload_n (pc' := 88) zq0 dX3_saveTo_87 rfl rfl rfl ?_
  refine e_r_iload_n (pc' := 89) dX3_saveTo_88 rfl rfl rfl ?_
  refine e_r_bipush (pc' := 91) dX3_saveTo_89 rfl (by decide) ?_
  refine e_r_iadd (pc' := 92) dX3_saveTo_91 rfl ?_
  refine e_r_iconst (pc' := 93) dX3_saveTo_92 rfl (by decide) ?_
  refine e_r_isub (pc' := 94) dX3_saveTo_93 rfl ?_
  refine e_r_aload_n (pc' := 95) (by decide) dX3_saveTo_94 rfl rfl rfl ?_
  refine e_r_geti (k := 2) (pc' := 98) cl_3 rfl (Nat.le_of_ble_eq_true rfl) rfl rfl fl_RX3_9 dX3_saveTo_95 rfl ?_
  obtain ⟨hb13, h⟩ := h
  refine e_r_iast (j9 := (e_w ((e_w (p2 + 45)) - 3)).toNat) (pc' := 99) hq0 kq0 hb13.1 hb13.2 rfl dX3_saveTo_98 rfl ?_
  refine e_r_aload_n (pc' := 100) zq0 dX3_saveTo_99 rfl rfl rfl ?_
  refine e_r_iload_n (pc' := 101) dX3_saveTo_100 rfl rfl rfl ?_
  refine e_r_bipush (pc' := 103) dX3_saveTo_101 rfl (by decide) ?_
  refine e_r_iadd (pc' := 104) dX3_saveTo_103 rfl ?_
  refine e_r_iconst (pc' := 105) dX3_saveTo_104 rfl (by decide) ?_
  refine e_r_isub (pc' := 106) dX3_saveTo_105 rfl ?_
  refine e_r_aload_n (pc' := 107) (by decide) dX3_saveTo_106 rfl rfl rfl ?_
  refine e_r_geti (k := 3) (pc' := 110) cl_3 rfl (Nat.le_of_ble_eq_true rfl) rfl rfl fl_RX3_15 dX3_saveTo_107 rfl ?_
  obtain ⟨hb14, h⟩ := h
  refine e_r_iast (j9 := (e_w ((e_w (p2 + 45)) - 2)).toNat) (pc' := 111) hq0 kq0 hb14.1 hb14.2 rfl dX3_saveTo_110 rfl ?_
  refine e_r_aload_n (pc' := 112) zq0 dX3_saveTo_111 rfl rfl rfl ?_
  refine e_r_iload_n (pc' := 113) dX3_saveTo_112 rfl rfl rfl ?_
  refine e_r_bipush (pc' := 115) dX3_saveTo_113 rfl (by decide) ?_
  refine e_r_iadd (pc' := 116) dX3_saveTo_115 rfl ?_
  refine e_r_iconst (pc' := 117) dX3_saveTo_116 rfl (by decide) ?_
  refine e_r_isub (pc' := 118) dX3_saveTo_117 rfl ?_
  refine e_r_aload_n (pc' := 119) (by decide) dX3_saveTo_118 rfl rfl rfl ?_
  refine e_r_geti (k := 4) (pc' := 122) cl_3 rfl (Nat.le_of_ble_eq_true rfl) rfl rfl fl_RX3_18 dX3_saveTo_119 rfl ?_
  obtain ⟨hb15, h⟩ := h
  refine e_r_iast (j9 := (e_w ((e_w (p2 + 45)) - 1)).toNat) (pc' := 123) hq0 kq0 hb15.1 hb15.2 rfl dX3_saveTo_122 rfl ?_
  exact e_r_vret rfl dX3_saveTo_123 h
theorem wp_X3_saveTo_trial_0 {X : e_X} {d gn : Nat} {o : e_O} {n9 : Nat} {q0 : Nat} (hq0 : e_SH q0 = (20, n9)) (kq0 : q0 ≤ 557) (zq0 : q0 ≠ 0) (M : e_M) (p2 : Int) (h : (0 ≤ p2 ∧ p2 + 6 ≤ (n9 : Int) ∧ (0 ≤ (e_w (p2 + 6)) ∧ (e_w (p2 + 6)) + 6 ≤ (n9 : Int) ∧ (0 ≤ (e_w (p2 + 12)) ∧ (e_w (p2 + 12)) + 6 ≤ (n9 : Int) ∧ (0 ≤ (e_w (p2 + 18)) ∧ (e_w (p2 + 18)) + 6 ≤ (n9 : Int) ∧ (0 ≤ (e_w (p2 + 24)) ∧ (e_w (p2 + 24)) + 6 ≤ (n9 : Int) ∧ (0 ≤ (e_w (p2 + 30)) ∧ (e_w (p2 + 30)) + 12 ≤ (n9 : Int) ∧ ((0 ≤ (e_w ((e_w (p2 + 45)) - 3)) ∧ (e_w ((e_w (p2 + 45)) - 3)) < (n9 : Int)) ∧ ((0 ≤ (e_w ((e_w (p2 + 45)) - 2)) ∧ (e_w ((e_w (p2 + 45)) - 2)) < (n9 : Int)) ∧ ((0 ≤ (e_w ((e_w (p2 + 45)) - 1)) ∧ (e_w ((e_w (p2 + 45)) - 1)) < (n9 : Int)) ∧ (o = (.inl none, (557, gn, e_RF, (e_up (e_up (e_up (e_cp (e_cp (e_cp (e_cp (e_cp (e_cp M 44 0 q0 p2.toNat 6) 45 0 q0 (e_w (p2 + 6)).toNat 6) 46 0 q0 (e_w (p2 + 12)).toNat 6) 47 0 q0 (e_w (p2 + 18)).toNat 6) 48 0 q0 (e_w (p2 + 24)).toNat 6) 49 0 q0 (e_w (p2 + 30)).toNat 12) q0 (e_w ((e_w (p2 + 45)) - 3)).toNat ((e_cp (e_cp (e_cp (e_cp (e_cp (e_cp M 44 0 q0 p2.toNat 6) 45 0 q0 (e_w (p2 + 6)).toNat 6) 46 0 q0 (e_w (p2 + 12)).toNat 6) 47 0 q0 (e_w (p2 + 18)).toNat 6) 48 0 q0 (e_w (p2 + 24)).toNat 6) 49 0 q0 (e_w (p2 + 30)).toNat 12) 43 2)) q0 (e_w ((e_w (p2 + 45)) - 2)).toNat ((e_up (e_cp (e_cp (e_cp (e_cp (e_cp (e_cp M 44 0 q0 p2.toNat 6) 45 0 q0 (e_w (p2 + 6)).toNat 6) 46 0 q0 (e_w (p2 + 12)).toNat 6) 47 0 q0 (e_w (p2 + 18)).toNat 6) 48 0 q0 (e_w (p2 + 24)).toNat 6) 49 0 q0 (e_w (p2 + 30)).toNat 12) q0 (e_w ((e_w (p2 + 45)) - 3)).toNat ((e_cp (e_cp (e_cp (e_cp (e_cp (e_cp M 44 0 q0 p2.toNat 6) 45 0 q0 (e_w (p2 + 6)).toNat 6) 46 0 q0 (e_w (p2 + 12)).toNat 6) 47 0 q0 (e_w (p2 + 18)).toNat 6) 48 0 q0 (e_w (p2 + 24)).toNat 6) 49 0 q0 (e_w (p2 + 30)).toNat 12) 43 2)) 43 3)) q0 (e_w ((e_w (p2 + 45)) - 1)).toNat ((e_up (e_up (e_cp (e_cp (e_cp (e_cp (e_cp (e_cp M 44 0 q0 p2.toNat 6) 45 0 q0 (e_w (p2 + 6)).toNat 6) 46 0 q0 (e_w (p2 + 12)).toNat 6) 47 0 q0 (e_w (p2 + 18)).toNat 6) 48 0 q0 (e_w (p2 + 24)).toNat 6) 49 0 q0 (e_w (p2 + 30)).toNat 12) q0 (e_w ((e_w (p2 + 45)) - 3)).toNat ((e_cp (e_cp (e_cp (e_cp (e_cp (e_cp M 44 0 q0 p2.toNat 6) 45 0 q0 (e_w (p2 + 6)).toNat 6) 46 0 q0 (e_w (p2 + 12)).toNat 6) 47 0 q0 (e_w (p2 + 18)).toNat 6) 48 0 q0 (e_w (p2 + 24)).toNat 6) 49 0 q0 (e_w (p2 + 30)).toNat 12) 43 2)) q0 (e_w ((e_w (p2 + 45)) - 2)).toNat ((e_up (e_cp (e_cp (e_cp (e_cp (e_cp (e_cp M 44 0 q0 p2.toNat 6) 45 0 q0 (e_w (p2 + 6)).toNat 6) 46 0 q0 (e_w (p2 + 12)).toNat 6) 47 0 q0 (e_w (p2 + 18)).toNat 6) 48 0 q0 (e_w (p2 + 24)).toNat 6) 49 0 q0 (e_w (p2 + 30)).toNat 12) q0 (e_w ((e_w (p2 + 45)) - 3)).toNat ((e_cp (e_cp (e_cp (e_cp (e_cp (e_cp M 44 0 q0 p2.toNat 6) 45 0 q0 (e_w (p2 + 6)).toNat 6) 46 0 q0 (e_w (p2 + 12)).toNat 6) 47 0 q0 (e_w (p2 + 18)).toNat 6) 48 0 q0 (e_w (p2 + 24)).toNat 6) 49 0 q0 (e_w (p2 + 30)).toNat 12) 43 2)) 43 3)) 43 4))))))))))))))) : e_G X (d + 1) YX3_saveTo 0 [some (.inr (.inr 43)), some (.inr (.inr q0)), some (.inl p2)] [] (557, gn, e_RF, M) o := by
  refine e_r_aload_n (pc' := 1) (by decide) dX3_saveTo_0 rfl rfl rfl ?_
  refine e_r_getr (k := 5) (q := 44) (pc' := 4) cl_3 rfl (Nat.le_of_ble_eq_true rfl) rfl rfl fl_RX3_21 rfl (Nat.le_of_ble_eq_true rfl) dX3_saveTo_1 rfl ?_
  refine e_r_iconst (pc' := 5) dX3_saveTo_4 rfl (by decide) ?_
  refine e_r_aload_n (pc' := 6) zq0 dX3_saveTo_5 rfl rfl rfl ?_
  refine e_r_iload_n (pc' := 7) dX3_saveTo_6 rfl rfl rfl ?_
  refine e_r_bipush (pc' := 9) dX3_saveTo_7 rfl (by decide) ?_
  obtain ⟨hc1, hc2, h⟩ := h
  refine e_r_copy (pc' := 12) rfl hq0 (Nat.le_of_ble_eq_true rfl) kq0 (by decide) hc1 (by decide) (by decide) hc2 lk_RX3_52 rfl dX3_saveTo_9 rfl ?_
  refine e_r_aload_n (pc' := 13) (by decide) dX3_saveTo_12 rfl rfl rfl ?_
  refine e_r_getr (k := 6) (q := 45) (pc' := 16) cl_3 rfl (Nat.le_of_ble_eq_true rfl) rfl rfl fl_RX3_25 rfl (Nat.le_of_ble_eq_true rfl) dX3_saveTo_13 rfl ?_
  refine e_r_iconst (pc' := 17) dX3_saveTo_16 rfl (by decide) ?_
  refine e_r_aload_n (pc' := 18) zq0 dX3_saveTo_17 rfl rfl rfl ?_
  refine e_r_iload_n (pc' := 19) dX3_saveTo_18 rfl rfl rfl ?_
  refine e_r_bipush (pc' := 21) dX3_saveTo_19 rfl (by decide) ?_
  refine e_r_iadd (pc' := 22) dX3_saveTo_21 rfl ?_
  refine e_r_bipush (pc' := 24) dX3_saveTo_22 rfl (by decide) ?_
  obtain ⟨hc3, hc4, h⟩ := h
  refine e_r_copy (pc' := 27) rfl hq0 (Nat.le_of_ble_eq_true rfl) kq0 (by decide) hc3 (by decide) (by decide) hc4 lk_RX3_52 rfl dX3_saveTo_24 rfl ?_
  refine e_r_aload_n (pc' := 28) (by decide) dX3_saveTo_27 rfl rfl rfl ?_
  refine e_r_getr (k := 7) (q := 46) (pc' := 31) cl_3 rfl (Nat.le_of_ble_eq_true rfl) rfl rfl fl_RX3_28 rfl (Nat.le_of_ble_eq_true rfl) dX3_saveTo_28 rfl ?_
  refine e_r_iconst (pc' := 32) dX3_saveTo_31 rfl (by decide) ?_
  refine e_r_aload_n (pc' := 33) zq0 dX3_saveTo_32 rfl rfl rfl ?_
  refine e_r_iload_n (pc' := 34) dX3_saveTo_33 rfl rfl rfl ?_
  refine e_r_bipush (pc' := 36) dX3_saveTo_34 rfl (by decide) ?_
  refine e_r_iadd (pc' := 37) dX3_saveTo_36 rfl ?_
  refine e_r_bipush (pc' := 39) dX3_saveTo_37 rfl (by decide) ?_
  obtain ⟨hc5, hc6, h⟩ := h
  refine e_r_copy (pc' := 42) rfl hq0 (Nat.le_of_ble_eq_true rfl) kq0 (by decide) hc5 (by decide) (by decide) hc6 lk_RX3_52 rfl dX3_saveTo_39 rfl ?_
  refine e_r_aload_n (pc' := 43) (by decide) dX3_saveTo_42 rfl rfl rfl ?_
  refine e_r_getr (k := 8) (q := 47) (pc' := 46) cl_3 rfl (Nat.le_of_ble_eq_true rfl) rfl rfl fl_RX3_31 rfl (Nat.le_of_ble_eq_true rfl) dX3_saveTo_43 rfl ?_
  refine e_r_iconst (pc' := 47) dX3_saveTo_46 rfl (by decide) ?_
  refine e_r_aload_n (pc' := 48) zq0 dX3_saveTo_47 rfl rfl rfl ?_
  refine e_r_iload_n (pc' := 49) dX3_saveTo_48 rfl rfl rfl ?_
  refine e_r_bipush (pc' := 51) dX3_saveTo_49 rfl (by decide) ?_
  refine e_r_iadd (pc' := 52) dX3_saveTo_51 rfl ?_
  refine e_r_bipush (pc' := 54) dX3_saveTo_52 rfl (by decide) ?_
  obtain ⟨hc7, hc8, h⟩ := h
  refine e_r_copy (pc' := 57) rfl hq0 (Nat.le_of_ble_eq_true rfl) kq0 (by decide) hc7 (by decide) (by decide) hc8 lk_RX3_52 rfl dX3_saveTo_54 rfl ?_
  refine e_r_aload_n (pc' := 58) (by decide) dX3_saveTo_57 rfl rfl rfl ?_
  refine e_r_getr (k := 9) (q := 48) (pc' := 61) cl_3 rfl (Nat.le_of_ble_eq_true rfl) rfl rfl fl_RX3_34 rfl (Nat.le_of_ble_eq_true rfl) dX3_saveTo_58 rfl ?_
  refine e_r_iconst (pc' := 62) dX3_saveTo_61 rfl (by decide) ?_
  refine e_r_aload_n (pc' := 63) zq0 dX3_saveTo_62 rfl rfl rfl ?_
  refine e_r_iload_n (pc' := 64) dX3_saveTo_63 rfl rfl rfl ?_
  refine e_r_bipush (pc' := 66) dX3_saveTo_64 rfl (by decide) ?_
  refine e_r_iadd (pc' := 67) dX3_saveTo_66 rfl ?_
  refine e_r_bipush (pc' := 69) dX3_saveTo_67 rfl (by decide) ?_
  obtain ⟨hc9, hc10, h⟩ := h
  refine e_r_copy (pc' := 72) rfl hq0 (Nat.le_of_ble_eq_true rfl) kq0 (by decide) hc9 (by decide) (by decide) hc10 lk_RX3_52 rfl dX3_saveTo_69 rfl ?_
  refine e_r_aload_n (pc' := 73) (by decide) dX3_saveTo_72 rfl rfl rfl ?_
  refine e_r_getr (k := 10) (q := 49) (pc' := 76) cl_3 rfl (Nat.le_of_ble_eq_true rfl) rfl rfl fl_RX3_37 rfl (Nat.le_of_ble_eq_true rfl) dX3_saveTo_73 rfl ?_
  refine e_r_iconst (pc' := 77) dX3_saveTo_76 rfl (by decide) ?_
  refine e_r_aload_n (pc' := 78) zq0 dX3_saveTo_77 rfl rfl rfl ?_
  refine e_r_iload_n (pc' := 79) dX3_saveTo_78 rfl rfl rfl ?_
  refine e_r_bipush (pc' := 81) dX3_saveTo_79 rfl (by decide) ?_
  refine e_r_iadd (pc' := 82) dX3_saveTo_81 rfl ?_
  refine e_r_bipush (pc' := 84) dX3_saveTo_82 rfl (by decide) ?_
  obtain ⟨hc11, hc12, h⟩ := h
  refine e_r_copy (pc' := 87) rfl hq0 (Nat.le_of_ble_eq_true rfl) kq0 (by decide) hc11 (by decide) (by decide) hc12 lk_RX3_52 rfl dX3_saveTo_84 rfl ?_
  refine e_r_aload_n (pc' := 88) zq0 dX3_saveTo_87 rfl rfl rfl ?_
  refine e_r_iload_n (pc' := 89) dX3_saveTo_88 rfl rfl rfl ?_
  refine e_r_bipush (pc' := 91) dX3_saveTo_89 rfl (by decide) ?_
  refine e_r_iadd (pc' := 92) dX3_saveTo_91 rfl ?_
  refine e_r_iconst (pc' := 93) dX3_saveTo_92 rfl (by decide) ?_
  refine e_r_isub (pc' := 94) dX3_saveTo_93 rfl ?_
  refine e_r_aload_n (pc' := 95) (by decide) dX3_saveTo_94 rfl rfl rfl ?_
  refine e_r_geti (k := 2) (pc' := 98) cl_3 rfl (Nat.le_of_ble_eq_true rfl) rfl rfl fl_RX3_9 dX3_saveTo_95 rfl ?_
  obtain ⟨hb13, h⟩ := h
  refine e_r_iast (j9 := (e_w ((e_w (p2 + 45)) - 3)).toNat) (pc' := 99) hq0 kq0 hb13.1 hb13.2 rfl dX3_saveTo_98 rfl ?_
  refine e_r_aload_n (pc' := 100) zq0 dX3_saveTo_99 rfl rfl rfl ?_
  refine e_r_iload_n (pc' := 101) dX3_saveTo_100 rfl rfl rfl ?_
  refine e_r_bipush (pc' := 103) dX3_saveTo_101 rfl (by decide) ?_
  refine e_r_iadd (pc' := 104) dX3_saveTo_103 rfl ?_
  refine e_r_iconst (pc' := 105) dX3_saveTo_104 rfl (by decide) ?_
  refine e_r_isub (pc' := 106) dX3_saveTo_105 rfl ?_
  refine e_r_aload_n (pc' := 107) (by decide) dX3_saveTo_106 rfl rfl rfl ?_
  refine e_r_geti (k := 3) (pc' := 110) cl_3 rfl (Nat.le_of_ble_eq_true rfl) rfl rfl fl_RX3_15 dX3_saveTo_107 rfl ?_
  obtain ⟨hb14, h⟩ := h
  refine e_r_iast (j9 := (e_w ((e_w (p2 + 45)) - 2)).toNat) (pc' := 111) hq0 kq0 hb14.1 hb14.2 rfl dX3_saveTo_110 rfl ?_
  refine e_r_aload_n (pc' := 112) zq0 dX3_saveTo_111 rfl rfl rfl ?_
  refine e_r_iload_n (pc' := 113) dX3_saveTo_112 rfl rfl rfl ?_
  refine e_r_bipush (pc' := 115) dX3_saveTo_113 rfl (by decide) ?_
  refine e_r_iadd (pc' := 116) dX3_saveTo_115 rfl ?_
  refine e_r_iconst (pc' := 117) dX3_saveTo_116 rfl (by decide) ?_
  refine e_r_isub (pc' := 118) dX3_saveTo_117 rfl ?_
  refine e_r_aload_n (pc' := 119) (by decide) dX3_saveTo_118 rfl rfl rfl ?_
  refine e_r_geti (k := 4) (pc' := 122) cl_3 rfl (Nat.le_of_ble_eq_true rfl) rfl rfl fl_RX3_18 dX3_saveTo_119 rfl ?_
  obtain ⟨hb15, h⟩ := h
  refine e_r_iast (j9 := (e_w ((e_w (p2 + 45)) - 1)).toNat) (pc' := 123) hq0 kq0 hb15.1 hb15.2 rfl dX3_saveTo_122 rfl ?_
  exact e_r_vret rfl dX3_saveTo_123 h
theorem wp_X3_loadFrom_now_0 {X : e_X} {d gn : Nat} {o : e_O} {n9 : Nat} {q0 : Nat} (hq0 : e_SH q0 = (20, n9)) (kq0 : q0 ≤ 557) (zq0 : q0 ≠ 0) (M : e_M) (p2 : Int) (h : (0 ≤ p2 ∧ p2 + 6 ≤ (n9 : Int) ∧ (0 ≤ (e_w (p2 + 6)) ∧ (e_w (p2 + 6)) + 6 ≤ (n9 : Int) ∧ (0 ≤ (e_w (p2 + 12)) ∧ (e_w (p2 + 12)) + 6 ≤ (n9 : Int) ∧ (0 ≤ (e_w (p2 + 18)) ∧ (e_w (p2 + 18)) + 6 ≤ (n9 : Int) ∧ (0 ≤ (e_w (p2 + 24)) ∧ (e_w (p2 + 24)) + 6 ≤ (n9 : Int) ∧ (0 ≤ (e_w (p2 + 30)) ∧ (e_w (p2 + 30)) + 12 ≤ (n9 : Int) ∧ ((0 ≤ (e_w ((e_w (p2 + 45)) - 3)) ∧ (e_w ((e_w (p2 + 45)) - 3)) < (n9 : Int)) ∧ ((0 ≤ (e_w ((e_w (p2 + 45)) - 2)) ∧ (e_w ((e_w (p2 + 45)) - 2)) < (n9 : Int)) ∧ ((0 ≤ (e_w ((e_w (p2 + 45)) - 1)) ∧ (e_w ((e_w (p2 + 45)) - 1)) < (n9 : Int)) ∧ (o = (.inl none, (557, gn, e_RF, (e_up (e_up (e_up (e_cp (e_cp (e_cp (e_cp (e_cp (e_cp M q0 p2.toNat 37 0 6) q0 (e_w (p2 + 6)).toNat 38 0 6) q0 (e_w (p2 + 12)).toNat 39 0 6) q0 (e_w (p2 + 18)).toNat 40 0 6) q0 (e_w (p2 + 24)).toNat 41 0 6) q0 (e_w (p2 + 30)).toNat 42 0 12) 36 2 ((e_cp (e_cp (e_cp (e_cp (e_cp (e_cp M q0 p2.toNat 37 0 6) q0 (e_w (p2 + 6)).toNat 38 0 6) q0 (e_w (p2 + 12)).toNat 39 0 6) q0 (e_w (p2 + 18)).toNat 40 0 6) q0 (e_w (p2 + 24)).toNat 41 0 6) q0 (e_w (p2 + 30)).toNat 42 0 12) q0 (e_w ((e_w (p2 + 45)) - 3)).toNat)) 36 3 ((e_up (e_cp (e_cp (e_cp (e_cp (e_cp (e_cp M q0 p2.toNat 37 0 6) q0 (e_w (p2 + 6)).toNat 38 0 6) q0 (e_w (p2 + 12)).toNat 39 0 6) q0 (e_w (p2 + 18)).toNat 40 0 6) q0 (e_w (p2 + 24)).toNat 41 0 6) q0 (e_w (p2 + 30)).toNat 42 0 12) 36 2 ((e_cp (e_cp (e_cp (e_cp (e_cp (e_cp M q0 p2.toNat 37 0 6) q0 (e_w (p2 + 6)).toNat 38 0 6) q0 (e_w (p2 + 12)).toNat 39 0 6) q0 (e_w (p2 + 18)).toNat 40 0 6) q0 (e_w (p2 + 24)).toNat 41 0 6) q0 (e_w (p2 + 30)).toNat 42 0 12) q0 (e_w ((e_w (p2 + 45)) - 3)).toNat)) q0 (e_w ((e_w (p2 + 45)) - 2)).toNat)) 36 4 ((e_up (e_up (e_cp (e_cp (e_cp (e_cp (e_cp (e_cp M q0 p2.toNat 37 0 6) q0 (e_w (p2 + 6)).toNat 38 0 6) q0 (e_w (p2 + 12)).toNat 39 0 6) q0 (e_w (p2 + 18)).toNat 40 0 6) q0 (e_w (p2 + 24)).toNat 41 0 6) q0 (e_w (p2 + 30)).toNat 42 0 12) 36 2 ((e_cp (e_cp (e_cp (e_cp (e_cp (e_cp M q0 p2.toNat 37 0 6) q0 (e_w (p2 + 6)).toNat 38 0 6) q0 (e_w (p2 + 12)).toNat 39 0 6) q0 (e_w (p2 + 18)).toNat 40 0 6) q0 (e_w (p2 + 24)).toNat 41 0 6) q0 (e_w (p2 + 30)).toNat 42 0 12) q0 (e_w ((e_w (p2 + 45)) - 3)).toNat)) 36 3 ((e_up (e_cp (e_cp (e_cp (e_cp (e_cp (e_cp M q0 p2.toNat 37 0 6) q0 (e_w (p2 + 6)).toNat 38 0 6) q0 (e_w (p2 + 12)).toNat 39 0 6) q0 (e_w (p2 + 18)).toNat 40 0 6) q0 (e_w (p2 + 24)).toNat 41 0 6) q0 (e_w (p2 + 30)).toNat 42 0 12) 36 2 ((e_cp (e_cp (e_cp (e_cp (e_cp (e_cp M q0 p2.toNat 37 0 6) q0 (e_w (p2 + 6)).toNat 38 0 6) q0 (e_w (p2 + 12)).toNat 39 0 6) q0 (e_w (p2 + 18)).toNat 40 0 6) q0 (e_w (p2 + 24)).toNat 41 0 6) q0 (e_w (p2 + 30)).toNat 42 0 12) q0 (e_w ((e_w (p2 + 45)) - 3)).toNat)) q0 (e_w ((e_w (p2 + 45)) - 2)).toNat)) q0 (e_w ((e_w (p2 + 45)) - 1)).toNat))))))))))))))) : e_G X (d + 1) YX3_loadFrom 0 [some (.inr (.inr 36)), some (.inr (.inr q0)), some (.inl p2)] [] (557, gn, e_RF, M) o := by
  refine e_r_aload_n (pc' := 1) zq0 dX3_loadFrom_0 rfl rfl rfl ?_
  refine e_r_iload_n (pc' := 2) dX3_loadFrom_1 rfl rfl rfl ?_
  refine e_r_aload_n (pc' := 3) (by decide) dX3_loadFrom_2 rfl rfl rfl ?_
  refine e_r_getr (k := 5) (q := 37) (pc' := 6) cl_3 rfl (Nat.le_of_ble_eq_true rfl) rfl rfl fl_RX3_21 rfl (Nat.le_of_ble_eq_true rfl) dX3_loadFrom_3 rfl ?_
  refine e_r_iconst (pc' := 7) dX3_loadFrom_6 rfl (by decide) ?_
  refine e_r_bipush (pc' := 9) dX3_loadFrom_7 rfl (by decide) ?_
  obtain ⟨hc1, hc2, h⟩ := h
  refine e_r_copy (pc' := 12) hq0 rfl kq0 (Nat.le_of_ble_eq_true rfl) hc1 (by decide) (by decide) hc2 (by decide) lk_RX3_52 rfl dX3_loadFrom_9 rfl ?_
  refine e_r_aload_n (pc' := 13) zq0 dX3_loadFrom_12 rfl rfl rfl ?_
  refine e_r_iload_n (pc' := 14) dX3_loadFrom_13 rfl rfl rfl ?_
  refine e_r_bipush (pc' := 16) dX3_loadFrom_14 rfl (by decide) ?_
  refine e_r_iadd (pc' := 17) dX3_loadFrom_16 rfl ?_
  refine e_r_aload_n (pc' := 18) (by decide) dX3_loadFrom_17 rfl rfl rfl ?_
  refine e_r_getr (k := 6) (q := 38) (pc' := 21) cl_3 rfl (Nat.le_of_ble_eq_true rfl) rfl rfl fl_RX3_25 rfl (Nat.le_of_ble_eq_true rfl) dX3_loadFrom_18 rfl ?_
  refine e_r_iconst (pc' := 22) dX3_loadFrom_21 rfl (by decide) ?_
  refine e_r_bipush (pc' := 24) dX3_loadFrom_22 rfl (by decide) ?_
  obtain ⟨hc3, hc4, h⟩ := h
  refine e_r_copy (pc' := 27) hq0 rfl kq0 (Nat.le_of_ble_eq_true rfl) hc3 (by decide) (by decide) hc4 (by decide) lk_RX3_52 rfl dX3_loadFrom_24 rfl ?_
  refine e_r_aload_n (pc' := 28) zq0 dX3_loadFrom_27 rfl rfl rfl ?_
  refine e_r_iload_n (pc' := 29) dX3_loadFrom_28 rfl rfl rfl ?_
  refine e_r_bipush (pc' := 31) dX3_loadFrom_29 rfl (by decide) ?_
  refine e_r_iadd (pc' := 32) dX3_loadFrom_31 rfl ?_
  refine e_r_aload_n (pc' := 33) (by decide) dX3_loadFrom_32 rfl rfl rfl ?_
  refine e_r_getr (k := 7) (q := 39) (pc' := 36) cl_3 rfl (Nat.le_of_ble_eq_true rfl) rfl rfl fl_RX3_28 rfl (Nat.le_of_ble_eq_true rfl) dX3_loadFrom_33 rfl ?_
  refine e_r_iconst (pc' := 37) dX3_loadFrom_36 rfl (by decide) ?_
  refine e_r_bipush (pc' := 39) dX3_loadFrom_37 rfl (by decide) ?_
  obtain ⟨hc5, hc6, h⟩ := h
  refine e_r_copy (pc' := 42) hq0 rfl kq0 (Nat.le_of_ble_eq_true rfl) hc5 (by decide) (by decide) hc6 (by decide) lk_RX3_52 rfl dX3_loadFrom_39 rfl ?_
  refine e_r_aload_n (pc' := 43) zq0 dX3_loadFrom_42 rfl rfl rfl ?_
  refine e_r_iload_n (pc' := 44) dX3_loadFrom_43 rfl rfl rfl ?_
  refine e_r_bipush (pc' := 46) dX3_loadFrom_44 rfl (by decide) ?_
  refine e_r_iadd (pc' := 47) dX3_loadFrom_46 rfl ?_
  refine e_r_aload_n (pc' := 48) (by decide) dX3_loadFrom_47 rfl rfl rfl ?_
  refine e_r_getr (k := 8) (q := 40) (pc' := 51) cl_3 rfl (Nat.le_of_ble_eq_true rfl) rfl rfl fl_RX3_31 rfl (Nat.le_of_ble_eq_true rfl) dX3_loadFrom_48 rfl ?_
  refine e_r_iconst (pc' := 52) dX3_loadFrom_51 rfl (by decide) ?_
  refine e_r_bipush (pc' := 54) dX3_loadFrom_52 rfl (by decide) ?_
  obtain ⟨hc7, hc8, h⟩ := h
  refine e_r_copy (pc' := 57) hq0 rfl kq0 (Nat.le_of_ble_eq_true rfl) hc7 (by decide) (by decide) hc8 (by decide) lk_RX3_52 rfl dX3_loadFrom_54 rfl ?_
  refine e_r_aload_n (pc' := 58) zq0 dX3_loadFrom_57 rfl rfl rfl ?_
  refine e_r_iload_n (pc' := 59) dX3_loadFrom_58 rfl rfl rfl ?_
  refine e_r_bipush (pc' := 61) dX3_loadFrom_59 rfl (by decide) ?_
  refine e_r_iadd (pc' := 62) dX3_loadFrom_61 rfl ?_
  refine e_r_aload_n (pc' := 63) (by decide) dX3_loadFrom_62 rfl rfl rfl ?_
  refine e_r_getr (k := 9) (q := 41) (pc' := 66) cl_3 rfl (Nat.le_of_ble_eq_true rfl) rfl rfl fl_RX3_34 rfl (Nat.le_of_ble_eq_true rfl) dX3_loadFrom_63 rfl ?_
  refine e_r_iconst (pc' := 67) dX3_loadFrom_66 rfl (by decide) ?_
  refine e_r_bipush (pc' := 69) dX3_loadFrom_67 rfl (by decide) ?_
  obtain ⟨hc9, hc10, h⟩ := h
  refine e_r_copy (pc' := 72) hq0 rfl kq0 (Nat.le_of_ble_eq_true rfl) hc9 (by decide) (by decide) hc10 (by decide) lk_RX3_52 rfl dX3_loadFrom_69 rfl ?_
  refine e_r_aload_n (pc' := 73) zq0 dX3_loadFrom_72 rfl rfl rfl ?_
  refine e_r_iload_n (pc' := 74) dX3_loadFrom_73 rfl rfl rfl ?_
  refine e_r_bipush (pc' := 76) dX3_loadFrom_74 rfl (by decide) ?_
  refine e_r_iadd (pc' := 77) dX3_loadFrom_76 rfl ?_
  refine e_r_aload_n (pc' := 78) (by decide) dX3_loadFrom_77 rfl rfl rfl ?_
  refine e_r_getr (k := 10) (q := 42) (pc' := 81) cl_3 rfl (Nat.le_of_ble_eq_true rfl) rfl rfl fl_RX3_37 rfl (Nat.le_of_ble_eq_true rfl) dX3_loadFrom_78 rfl ?_
  refine e_r_iconst (pc' := 82) dX3_loadFrom_81 rfl (by decide) ?_
  refine e_r_bipush (pc' := 84) dX3_loadFrom_82 rfl (by decide) ?_
  obtain ⟨hc11, hc12, h⟩ := h
  refine e_r_copy (pc' := 87) hq0 rfl kq0 (Nat.le_of_ble_eq_true rfl) hc11 (by decide) (by decide) hc12 (by decide) lk_RX3_52 rfl dX3_loadFrom_84 rfl ?_
  refine e_r_aload_n (pc' := 88) (by decide) dX3_loadFrom_87 rfl rfl rfl ?_
  refine e_r_aload_n (pc' := 89) zq0 dX3_loadFrom_88 rfl rfl rfl ?_
  refine e_r_iload_n (pc' := 90) dX3_loadFrom_89 rfl rfl rfl ?_
  refine e_r_bipush (pc' := 92) dX3_loadFrom_90 rfl (by decide) ?_
  refine e_r_iadd (pc' := 93) dX3_loadFrom_92 rfl ?_
  refine e_r_iconst (pc' := 94) dX3_loadFrom_93 rfl (by decide) ?_
  refine e_r_isub (pc' := 95) dX3_loadFrom_94 rfl ?_
  obtain ⟨hb13, h⟩ := h
  refine e_r_iald (j9 := (e_w ((e_w (p2 + 45)) - 3)).toNat) (pc' := 96) hq0 kq0 hb13.1 hb13.2 rfl dX3_loadFrom_95 rfl ?_
  refine e_r_puti (k := 2) (pc' := 99) cl_3 rfl (Nat.le_of_ble_eq_true rfl) rfl rfl fl_RX3_9 rfl (by decide +kernel) dX3_loadFrom_96 rfl ?_
  refine e_r_aload_n (pc' := 100) (by decide) dX3_loadFrom_99 rfl rfl rfl ?_
  refine e_r_aload_n (pc' := 101) zq0 dX3_loadFrom_100 rfl rfl rfl ?_
  refine e_r_iload_n (pc' := 102) dX3_loadFrom_101 rfl rfl rfl ?_
  refine e_r_bipush (pc' := 104) dX3_loadFrom_102 rfl (by decide) ?_
  refine e_r_iadd (pc' := 105) dX3_loadFrom_104 rfl ?_
  refine e_r_iconst (pc' := 106) dX3_loadFrom_105 rfl (by decide) ?_
  refine e_r_isub (pc' := 107) dX3_loadFrom_106 rfl ?_
  obtain ⟨hb14, h⟩ := h
  refine e_r_iald (j9 := (e_w ((e_w (p2 + 45)) - 2)).toNat) (pc' := 108) hq0 kq0 hb14.1 hb14.2 rfl dX3_loadFrom_107 rfl ?_
  refine e_r_puti (k := 3) (pc' := 111) cl_3 rfl (Nat.le_of_ble_eq_true rfl) rfl rfl fl_RX3_15 rfl (by decide +kernel) dX3_loadFrom_108 rfl ?_
  refine e_r_aload_n (pc' := 112) (by decide) dX3_loadFrom_111 rfl rfl rfl ?_
  refine e_r_aload_n (pc' := 113) zq0 dX3_loadFrom_112 rfl rfl rfl ?_
  refine e_r_iload_n (pc' := 114) dX3_loadFrom_113 rfl rfl rfl ?_
  refine e_r_bipush (pc' := 116) dX3_loadFrom_114 rfl (by decide) ?_
  refine e_r_iadd (pc' := 117) dX3_loadFrom_116 rfl ?_
  refine e_r_iconst (pc' := 118) dX3_loadFrom_117 rfl (by decide) ?_
  refine e_r_isub (pc' := 119) dX3_loadFrom_118 rfl ?_
  obtain ⟨hb15, h⟩ := h
  refine e_r_iald (j9 := (e_w ((e_w (p2 + 45)) - 1)).toNat) (pc' := 120) hq0 kq0 hb15.1 hb15.2 rfl dX3_loadFrom_119 rfl ?_
  refine e_r_puti (k := 4) (pc' := 123) cl_3 rfl (Nat.le_of_ble_eq_true rfl) rfl rfl fl_RX3_18 rfl (by decide +kernel) dX3_loadFrom_120 rfl ?_
  exact e_r_vret rfl dX3_loadFrom_123 h
theorem wp_X3_loadFrom_trial_0 {X : e_X} {d gn : Nat} {o : e_O} {n9 : Nat} {q0 : Nat} (hq0 : e_SH q0 = (20, n9)) (kq0 : q0 ≤ 557) (zq0 : q0 ≠ 0) (M : e_M) (p2 : Int) (h : (0 ≤ p2 ∧ p2 + 6 ≤ (n9 : Int) ∧ (0 ≤ (e_w (p2 + 6)) ∧ (e_w (p2 + 6)) + 6 ≤ (n9 : Int) ∧ (0 ≤ (e_w (p2 + 12)) ∧ (e_w (p2 + 12)) + 6 ≤ (n9 : Int) ∧ (0 ≤ (e_w (p2 + 18)) ∧ (e_w (p2 + 18)) + 6 ≤ (n9 : Int) ∧ (0 ≤ (e_w (p2 + 24)) ∧ (e_w (p2 + 24)) + 6 ≤ (n9 : Int) ∧ (0 ≤ (e_w (p2 + 30)) ∧ (e_w (p2 + 30)) + 12 ≤ (n9 : Int) ∧ ((0 ≤ (e_w ((e_w (p2 + 45)) - 3)) ∧ (e_w ((e_w (p2 + 45)) - 3)) < (n9 : Int)) ∧ ((0 ≤ (e_w ((e_w (p2 + 45)) - 2)) ∧ (e_w ((e_w (p2 + 45)) - 2)) < (n9 : Int)) ∧ ((0 ≤ (e_w ((e_w (p2 + 45)) - 1)) ∧ (e_w ((e_w (p2 + 45)) - 1)) < (n9 : Int)) ∧ (o = (.inl none, (557, gn, e_RF, (e_up (e_up (e_up (e_cp (e_cp (e_cp (e_cp (e_cp (e_cp M q0 p2.toNat 44 0 6) q0 (e_w (p2 + 6)).toNat 45 0 6) q0 (e_w (p2 + 12)).toNat 46 0 6) q0 (e_w (p2 + 18)).toNat 47 0 6) q0 (e_w (p2 + 24)).toNat 48 0 6) q0 (e_w (p2 + 30)).toNat 49 0 12) 43 2 ((e_cp (e_cp (e_cp (e_cp (e_cp (e_cp M q0 p2.toNat 44 0 6) q0 (e_w (p2 + 6)).toNat 45 0 6) q0 (e_w (p2 + 12)).toNat 46 0 6) q0 (e_w (p2 + 18)).toNat 47 0 6) q0 (e_w (p2 + 24)).toNat 48 0 6) q0 (e_w (p2 + 30)).toNat 49 0 12) q0 (e_w ((e_w (p2 + 45)) - 3)).toNat)) 43 3 ((e_up (e_cp (e_cp (e_cp (e_cp (e_cp (e_cp M q0 p2.toNat 44 0 6) q0 (e_w (p2 + 6)).toNat 45 0 6) q0 (e_w (p2 + 12)).toNat 46 0 6) q0 (e_w (p2 + 18)).toNat 47 0 6) q0 (e_w (p2 + 24)).toNat 48 0 6) q0 (e_w (p2 + 30)).toNat 49 0 12) 43 2 ((e_cp (e_cp (e_cp (e_cp (e_cp (e_cp M q0 p2.toNat 44 0 6) q0 (e_w (p2 + 6)).toNat 45 0 6) q0 (e_w (p2 + 12)).toNat 46 0 6) q0 (e_w (p2 + 18)).toNat 47 0 6) q0 (e_w (p2 + 24)).toNat 48 0 6) q0 (e_w (p2 + 30)).toNat 49 0 12) q0 (e_w ((e_w (p2 + 45)) - 3)).toNat)) q0 (e_w ((e_w (p2 + 45)) - 2)).toNat)) 43 4 ((e_up (e_up (e_cp (e_cp (e_cp (e_cp (e_cp (e_cp M q0 p2.toNat 44 0 6) q0 (e_w (p2 + 6)).toNat 45 0 6) q0 (e_w (p2 + 12)).toNat 46 0 6) q0 (e_w (p2 + 18)).toNat 47 0 6) q0 (e_w (p2 + 24)).toNat 48 0 6) q0 (e_w (p2 + 30)).toNat 49 0 12) 43 2 ((e_cp (e_cp (e_cp (e_cp (e_cp (e_cp M q0 p2.toNat 44 0 6) q0 (e_w (p2 + 6)).toNat 45 0 6) q0 (e_w (p2 + 12)).toNat 46 0 6) q0 (e_w (p2 + 18)).toNat 47 0 6) q0 (e_w (p2 + 24)).toNat 48 0 6) q0 (e_w (p2 + 30)).toNat 49 0 12) q0 (e_w ((e_w (p2 + 45)) - 3)).toNat)) 43 3 ((e_up (e_cp (e_cp (e_cp (e_cp (e_cp (e_cp M q0 p2.toNat 44 0 6) q0 (e_w (p2 + 6)).toNat 45 0 6) q0 (e_w (p2 + 12)).toNat 46 0 6) q0 (e_w (p2 + 18)).toNat 47 0 6) q0 (e_w (p2 + 24)).toNat 48 0 6) q0 (e_w (p2 + 30)).toNat 49 0 12) 43 2 ((e_cp (e_cp (e_cp (e_cp (e_cp (e_cp M q0 p2.toNat 44 0 6) q0 (e_w (p2 + 6)).toNat 45 0 6) q0 (e_w (p2 + 12)).toNat 46 0 6) q0 (e_w (p2 + 18)).toNat 47 0 6) q0 (e_w (p2 + 24)).toNat 48 0 6) q0 (e_w (p2 + 30)).toNat 49 0 12) q0 (e_w ((e_w (p2 + 45)) - 3)).toNat)) q0 (e_w ((e_w (p2 + 45)) - 2)).toNat)) q0 (e_w ((e_w (p2 + 45)) - 1)).toNat))))))))))))))) : e_G X (d + 1) YX3_loadFrom 0 [some (.inr (.inr 43)), some (.inr (.inr q0)), some (.inl p2)] [] (557, gn, e_RF, M) o := by
  refine e_r_aload_n (pc' := 1) zq0 dX3_loadFrom_0 rfl rfl rfl ?_
  refine e_r_iload_n (pc' := 2) dX3_loadFrom_1 rfl rfl rfl ?_
  refine e_r_aload_n (pc' := 3) (by decide) dX3_loadFrom_2 rfl rfl rfl ?_
  refine e_r_getr (k := 5) (q := 44) (pc' := 6) cl_3 rfl (Nat.le_of_ble_eq_true rfl) rfl rfl fl_RX3_21 rfl (Nat.le_of_ble_eq_true rfl) dX3_loadFrom_3 rfl ?_
  refine e_r_iconst (pc' := 7) dX3_loadFrom_6 rfl (by decide) ?_
  refine e_r_bipush (pc' := 9) dX3_loadFrom_7 rfl (by decide) ?_
  obtain ⟨hc1, hc2, h⟩ := h
  refine e_r_copy (pc' := 12) hq0 rfl kq0 (Nat.le_of_ble_eq_true rfl) hc1 (by decide) (by decide) hc2 (by decide) lk_RX3_52 rfl dX3_loadFrom_9 rfl ?_
  refine e_r_aload_n (pc' := 13) zq0 dX3_loadFrom_12 rfl rfl rfl ?_
  refine e_r_iload_n (pc' := 14) dX3_loadFrom_13 rfl rfl rfl ?_
  refine e_r_bipush (pc' := 16) dX3_loadFrom_14 rfl (by decide) ?_
  refine e_r_iadd (pc' := 17) dX3_loadFrom_16 rfl ?_
  refine e_r_aload_n (pc' := 18) (by decide) dX3_loadFrom_17 rfl rfl rfl ?_
  refine e_r_getr (k := 6) (q := 45) (pc' := 21) cl_3 rfl (Nat.le_of_ble_eq_true rfl) rfl rfl fl_RX3_25 rfl (Nat.le_of_ble_eq_true rfl) dX3_loadFrom_18 rfl ?_
  refine e_r_iconst (pc' := 22) dX3_loadFrom_21 rfl (by decide) ?_
  refine e_r_bipush (pc' := 24) dX3_loadFrom_22 rfl (by decide) ?_
  obtain ⟨hc3, hc4, h⟩ := h
  refine e_r_copy (pc' := 27) hq0 rfl kq0 (Nat.le_of_ble_eq_true rfl) hc3 (by decide) (by decide) hc4 (by decide) lk_RX3_52 rfl dX3_loadFrom_24 rfl ?_
  refine e_r_aload_n (pc' := 28) zq0 dX3_loadFrom_27 rfl rfl rfl ?_
  refine e_r_iload_n (pc' := 29) dX3_loadFrom_28 rfl rfl rfl ?_
  refine e_r_bipush (pc' := 31) dX3_loadFrom_29 rfl (by decide) ?_
  refine e_r_iadd (pc' := 32) dX3_loadFrom_31 rfl ?_
  refine e_r_aload_n (pc' := 33) (by decide) dX3_loadFrom_32 rfl rfl rfl ?_
  refine e_r_getr (k := 7) (q := 46) (pc' := 36) cl_3 rfl (Nat.le_of_ble_eq_true rfl) rfl rfl fl_RX3_28 rfl (Nat.le_of_ble_eq_true rfl) dX3_loadFrom_33 rfl ?_
  refine e_r_iconst (pc' := 37) dX3_loadFrom_36 rfl (by decide) ?_
  refine e_r_bipush (pc' := 39) dX3_loadFrom_37 rfl (by decide) ?_
  obtain ⟨hc5, hc6, h⟩ := h
  refine e_r_copy (pc' := 42) hq0 rfl kq0 (Nat.le_of_ble_eq_true rfl) hc5 (by decide) (by decide) hc6 (by decide) lk_RX3_52 rfl dX3_loadFrom_39 rfl ?_
  refine e_r_aload_n (pc' := 43) zq0 dX3_loadFrom_42 rfl rfl rfl ?_
  refine e_r_iload_n (pc' := 44) dX3_loadFrom_43 rfl rfl rfl ?_
  refine e_r_bipush (pc' := 46) dX3_loadFrom_44 rfl (by decide) ?_
  refine e_r_iadd (pc' := 47) dX3_loadFrom_46 rfl ?_
  refine e_r_aload_n (pc' := 48) (by decide) dX3_loadFrom_47 rfl rfl rfl ?_
  refine e_r_getr (k := 8) (q := 47) (pc' := 51) cl_3 rfl (Nat.le_of_ble_eq_true rfl) rfl rfl fl_RX3_31 rfl (Nat.le_of_ble_eq_true rfl) dX3_loadFrom_48 rfl ?_
  refine e_r_iconst (pc' := 52) dX3_loadFrom_51 rfl (by decide) ?_
  refine e_r_bipush (pc' := 54) dX3_loadFrom_52 rfl (by decide) ?_
  obtain ⟨hc7, hc8, h⟩ := h
  refine e_r_copy (pc' := 57) hq0 rfl kq0 (Nat.le_of_ble_eq_true rfl) hc7 (by decide) (by decide) hc8 (by decide) lk_RX3_52 rfl dX3_loadFrom_54 rfl ?_
  refine e_r_aload_n (pc' := 58) zq0 dX3_loadFrom_57 rfl rfl rfl ?_
  refine e_r_iload_n (pc' := 59) dX3_loadFrom_58 rfl rfl rfl ?_
  refine e_r_bipush (pc' := 61) dX3_loadFrom_59 rfl (by decide) ?_
  refine e_r_iadd (pc' := 62) dX3_loadFrom_61 rfl ?_
  refine e_r_aload_n (pc' := 63) (by decide) dX3_loadFrom_62 rfl rfl rfl ?_
  refine e_r_getr (k := 9) (q := 48) (pc' := 66) cl_3 rfl (Nat.le_of_ble_eq_true rfl) rfl rfl fl_RX3_34 rfl (Nat.le_of_ble_eq_true rfl) dX3_loadFrom_63 rfl ?_
  refine e_r_iconst (pc' := 67) dX3_loadFrom_66 rfl (by decide) ?_
  refine e_r_bipush (pc' := 69) dX3_loadFrom_67 rfl (by decide) ?_
  obtain ⟨hc9, hc10, h⟩ := h
  refine e_r_copy (pc' := 72) hq0 rfl kq0 (Nat.le_of_ble_eq_true rfl) hc9 (by decide) (by decide) hc10 (by decide) lk_RX3_52 rfl dX3_loadFrom_69 rfl ?_
  refine e_r_aload_n (pc' := 73) zq0 dX3_loadFrom_72 rfl rfl rfl ?_
  refine e_r_iload_n (pc' := 74) dX3_loadFrom_73 rfl rfl rfl ?_
  refine e_r_bipush (pc' := 76) dX3_loadFrom_74 rfl (by decide) ?_
  refine e_r_iadd (pc' := 77) dX3_loadFrom_76 rfl ?_
  refine e_r_aload_n (pc' := 78) (by decide) dX3_loadFrom_77 rfl rfl rfl ?_
  refine e_r_getr (k := 10) (q := 49) (pc' := 81) cl_3 rfl (Nat.le_of_ble_eq_true rfl) rfl rfl fl_RX3_37 rfl (Nat.le_of_ble_eq_true rfl) dX3_loadFrom_78 rfl ?_
  refine e_r_iconst (pc' := 82) dX3_loadFrom_81 rfl (by decide) ?_
  refine e_r_bipush (pc' := 84) dX3_loadFrom_82 rfl (by decide) ?_
  obtain ⟨hc11, hc12, h⟩ := h
  refine e_r_copy (pc' := 87) hq0 rfl kq0 (Nat.le_of_ble_eq_true rfl) hc11 (by decide) (by decide) hc12 (by decide) lk_RX3_52 rfl dX3_loadFrom_84 rfl ?_
  refine e_r_aload_n (pc' := 88) (by decide) dX3_loadFrom_87 rfl rfl rfl ?_
  refine e_r_aload_n (pc' := 89) zq0 dX3_loadFrom_88 rfl rfl rfl ?_
  refine e_r_iload_n (pc' := 90) dX3_loadFrom_89 rfl rfl rfl ?_
  refine e_r_bipush (pc' := 92) dX3_loadFrom_90 rfl (by decide) ?_
  refine e_r_iadd (pc' := 93) dX3_loadFrom_92 rfl ?_
  refine e_r_iconst (pc' := 94) dX3_loadFrom_93 rfl (by decide) ?_
  refine e_r_isub (pc' := 95) dX3_loadFrom_94 rfl ?_
  obtain ⟨hb13, h⟩ := h
  refine e_r_iald (j9 := (e_w ((e_w (p2 + 45)) - 3)).toNat) (pc' := 96) hq0 kq0 hb13.1 hb13.2 rfl dX3_loadFrom_95 rfl ?_
  refine e_r_puti (k := 2) (pc' := 99) cl_3 rfl (Nat.le_of_ble_eq_true rfl) rfl rfl fl_RX3_9 rfl (by decide +kernel) dX3_loadFrom_96 rfl ?_
  refine e_r_aload_n (pc' := 100) (by decide) dX3_loadFrom_99 rfl rfl rfl ?_
  refine e_r_aload_n (pc' := 101) zq0 dX3_loadFrom_100 rfl rfl rfl ?_
  refine e_r_iload_n (pc' := 102) dX3_loadFrom_101 rfl rfl rfl ?_
  refine e_r_bipush (pc' := 104) dX3_loadFrom_102 rfl (by decide) ?_
  refine e_r_iadd (pc' := 105) dX3_loadFrom_104 rfl ?_
  refine e_r_iconst (pc' := 106) dX3_loadFrom_105 rfl (by decide) ?_
  refine e_r_isub (pc' := 107) dX3_loadFrom_106 rfl ?_
  obtain ⟨hb14, h⟩ := h
  refine e_r_iald (j9 := (e_w ((e_w (p2 + 45)) - 2)).toNat) (pc' := 108) hq0 kq0 hb14.1 hb14.2 rfl dX3_loadFrom_107 rfl ?_
  refine e_r_puti (k := 3) (pc' := 111) cl_3 rfl (Nat.le_of_ble_eq_true rfl) rfl rfl fl_RX3_15 rfl (by decide +kernel) dX3_loadFrom_108 rfl ?_
  refine e_r_aload_n (pc' := 112) (by decide) dX3_loadFrom_111 rfl rfl rfl ?_
  refine e_r_aload_n (pc' := 113) zq0 dX3_loadFrom_112 rfl rfl rfl ?_
  refine e_r_iload_n (pc' := 114) dX3_loadFrom_113 rfl rfl rfl ?_
  refine e_r_bipush (pc' := 116) dX3_loadFrom_114 rfl (by decide) ?_
  refine e_r_iadd (pc' := 117) dX3_loadFrom_116 rfl ?_
  refine e_r_iconst (pc' := 118) dX3_loadFrom_117 rfl (by decide) ?_
  refine e_r_isub (pc' := 119) dX3_loadFrom_118 rfl ?_
  obtain ⟨hb15, h⟩ := h
  refine e_r_iald (j9 := (e_w ((e_w (p2 + 45)) - 1)).toNat) (pc' := 120) hq0 kq0 hb15.1 hb15.2 rfl dX3_loadFrom_119 rfl ?_
  refine e_r_puti (k := 4) (pc' := 123) cl_3 rfl (Nat.le_of_ble_eq_true rfl) rfl rfl fl_RX3_18 rfl (by decide +kernel) dX3_loadFrom_120 rfl ?_
  exact e_r_vret rfl dX3_loadFrom_123 h
theorem wp_X3_hasBought_now_0 {X : e_X} {d gn : Nat} {o : e_O} (M : e_M) (p1 : Int) (h : ((0 ≤ p1 ∧ p1 < 6) ∧ (((M 40 p1.toNat) = (-1) → (o = (.inl (some (.inl 0)), (557, gn, e_RF, M)))) ∧ (¬ ((M 40 p1.toNat) = (-1)) → (o = (.inl (some (.inl 1)), (557, gn, e_RF, M))))))) : e_G X d YX3_hasBought 0 [some (.inr (.inr 36)), some (.inl p1)] [] (557, gn, e_RF, M) o := by
  refine e_r_aload_n (pc' := 1) (by decide) dX3_hasBought_0 rfl rfl rfl ?_
  refine e_r_getr (k := 8) (q := 40) (pc' := 4) cl_3 rfl (Nat.le_of_ble_eq_true rfl) rfl rfl fl_RX3_31 rfl (Nat.le_of_ble_eq_true rfl) dX3_hasBought_1 rfl ?_
  refine e_r_iload_n (pc' := 5) dX3_hasBought_4 rfl rfl rfl ?_
  obtain ⟨hb1, h⟩ := h
  refine e_r_iald (j9 := p1.toNat) (pc' := 6) rfl (Nat.le_of_ble_eq_true rfl) hb1.1 hb1.2 rfl dX3_hasBought_5 rfl ?_
  refine e_r_iconst (pc' := 7) dX3_hasBought_6 rfl (by decide) ?_
  obtain ⟨ht2, hf3⟩ := h
  refine e_r_icmp_eq (tgt := 14) (pc' := 10) dX3_hasBought_7 rfl rfl (fun c => ?_) (fun c => ?_)
  · have h := ht2 c
    refine e_r_iconst (pc' := 15) dX3_hasBought_14 rfl (by decide) ?_
    exact e_r_iret (ty := .boolean) rfl (e_nZ (by decide)) dX3_hasBought_15 h
  · have h := hf3 c
    refine e_r_iconst (pc' := 11) dX3_hasBought_10 rfl (by decide) ?_
    refine e_r_goto (pc' := 15) dX3_hasBought_11 rfl ?_
    exact e_r_iret (ty := .boolean) rfl (e_nZ (by decide)) dX3_hasBought_15 h
theorem wp_X3_hasBought_trial_0 {X : e_X} {d gn : Nat} {o : e_O} (M : e_M) (p1 : Int) (h : ((0 ≤ p1 ∧ p1 < 6) ∧ (((M 47 p1.toNat) = (-1) → (o = (.inl (some (.inl 0)), (557, gn, e_RF, M)))) ∧ (¬ ((M 47 p1.toNat) = (-1)) → (o = (.inl (some (.inl 1)), (557, gn, e_RF, M))))))) : e_G X d YX3_hasBought 0 [some (.inr (.inr 43)), some (.inl p1)] [] (557, gn, e_RF, M) o := by
  refine e_r_aload_n (pc' := 1) (by decide) dX3_hasBought_0 rfl rfl rfl ?_
  refine e_r_getr (k := 8) (q := 47) (pc' := 4) cl_3 rfl (Nat.le_of_ble_eq_true rfl) rfl rfl fl_RX3_31 rfl (Nat.le_of_ble_eq_true rfl) dX3_hasBought_1 rfl ?_
  refine e_r_iload_n (pc' := 5) dX3_hasBought_4 rfl rfl rfl ?_
  obtain ⟨hb1, h⟩ := h
  refine e_r_iald (j9 := p1.toNat) (pc' := 6) rfl (Nat.le_of_ble_eq_true rfl) hb1.1 hb1.2 rfl dX3_hasBought_5 rfl ?_
  refine e_r_iconst (pc' := 7) dX3_hasBought_6 rfl (by decide) ?_
  obtain ⟨ht2, hf3⟩ := h
  refine e_r_icmp_eq (tgt := 14) (pc' := 10) dX3_hasBought_7 rfl rfl (fun c => ?_) (fun c => ?_)
  · have h := ht2 c
    refine e_r_iconst (pc' := 15) dX3_hasBought_14 rfl (by decide) ?_
    exact e_r_iret (ty := .boolean) rfl (e_nZ (by decide)) dX3_hasBought_15 h
  · have h := hf3 c
    refine e_r_iconst (pc' := 11) dX3_hasBought_10 rfl (by decide) ?_
    refine e_r_goto (pc' := 15) dX3_hasBought_11 rfl ?_
    exact e_r_iret (ty := .boolean) rfl (e_nZ (by decide)) dX3_hasBought_15 h
theorem wp_X3_boughtBits_now_0 {X : e_X} {d gn : Nat} {o : e_O} (M : e_M) (h : e_G X d YX3_boughtBits 4 [some (.inr (.inr 36)), some (.inl 0), some (.inl 0)] [] (557, gn, e_RF, M) o) : e_G X d YX3_boughtBits 0 [some (.inr (.inr 36)), none, none] [] (557, gn, e_RF, M) o := by
  refine e_r_iconst (pc' := 1) dX3_boughtBits_0 rfl (by decide) ?_
  refine e_r_istore_n (pc' := 2) (loc' := [some (.inr (.inr 36)), some (.inl 0), none]) dX3_boughtBits_1 rfl rfl rfl rfl rfl ?_
  refine e_r_iconst (pc' := 3) dX3_boughtBits_2 rfl (by decide) ?_
  refine e_r_istore_n (pc' := 4) (loc' := [some (.inr (.inr 36)), some (.inl 0), some (.inl 0)]) dX3_boughtBits_3 rfl rfl rfl rfl rfl ?_
  exact h
theorem wp_X3_boughtBits_now_4 {X : e_X} {d gn : Nat} {o : e_O} (M : e_M) (v1 v2 : Int) (h : (((M 4 0) ≤ v2 → (o = (.inl (some (.inl v1)), (557, gn, e_RF, M)))) ∧ (¬ ((M 4 0) ≤ v2) → ((0 ≤ v2 ∧ v2 < 6) ∧ (((M 40 v2.toNat) = (-1) → e_G X d YX3_boughtBits 4 [some (.inr (.inr 36)), some (.inl v1), some (.inl (e_w (v2 + 1)))] [] (557, gn, e_RF, M) o) ∧ (¬ ((M 40 v2.toNat) = (-1)) → e_G X d YX3_boughtBits 4 [some (.inr (.inr 36)), some (.inl (e_or v1 (e_shl 1 v2))), some (.inl (e_w (v2 + 1)))] [] (557, gn, e_RF, M) o)))))) : e_G X d YX3_boughtBits 4 [some (.inr (.inr 36)), some (.inl v1), some (.inl v2)] [] (557, gn, e_RF, M) o := by
  refine e_r_iload_n (pc' := 5) dX3_boughtBits_4 rfl rfl rfl ?_
  refine e_r_aload_n (pc' := 6) (by decide) dX3_boughtBits_5 rfl rfl rfl ?_
  refine e_r_getr (k := 0) (q := 4) (pc' := 9) cl_3 rfl (Nat.le_of_ble_eq_true rfl) rfl rfl fl_RX3_40 rfl (Nat.le_of_ble_eq_true rfl) dX3_boughtBits_6 rfl ?_
  refine e_r_geti (k := 0) (pc' := 12) cl_8 rfl (Nat.le_of_ble_eq_true rfl) rfl rfl fl_RX3_58 dX3_boughtBits_9 rfl ?_
  obtain ⟨ht1, hf2⟩ := h
  refine e_r_icmp_ge (tgt := 37) (pc' := 15) dX3_boughtBits_12 rfl rfl (fun c => ?_) (fun c => ?_)
  · have h := ht1 c
    refine e_r_iload_n (pc' := 38) dX3_boughtBits_37 rfl rfl rfl ?_
    exact e_r_iret (ty := .int) rfl (e_nI _) dX3_boughtBits_38 h
  · have h := hf2 c
    refine e_r_aload_n (pc' := 16) (by decide) dX3_boughtBits_15 rfl rfl rfl ?_
    refine e_r_getr (k := 8) (q := 40) (pc' := 19) cl_3 rfl (Nat.le_of_ble_eq_true rfl) rfl rfl fl_RX3_31 rfl (Nat.le_of_ble_eq_true rfl) dX3_boughtBits_16 rfl ?_
    refine e_r_iload_n (pc' := 20) dX3_boughtBits_19 rfl rfl rfl ?_
    obtain ⟨hb3, h⟩ := h
    refine e_r_iald (j9 := v2.toNat) (pc' := 21) rfl (Nat.le_of_ble_eq_true rfl) hb3.1 hb3.2 rfl dX3_boughtBits_20 rfl ?_
    refine e_r_iconst (pc' := 22) dX3_boughtBits_21 rfl (by decide) ?_
    obtain ⟨ht4, hf5⟩ := h
    refine e_r_icmp_eq (tgt := 31) (pc' := 25) dX3_boughtBits_22 rfl rfl (fun c => ?_) (fun c => ?_)
    · have h := ht4 c
      refine e_r_iinc (pc' := 34) (loc' := [some (.inr (.inr 36)), some (.inl v1), some (.inl (e_w (v2 + 1)))]) dX3_boughtBits_31 rfl rfl rfl rfl rfl ?_
      refine e_r_goto (pc' := 4) dX3_boughtBits_34 rfl ?_
      exact h
    · have h := hf5 c
      refine e_r_iload_n (pc' := 26) dX3_boughtBits_25 rfl rfl rfl ?_
      refine e_r_iconst (pc' := 27) dX3_boughtBits_26 rfl (by decide) ?_
      refine e_r_iload_n (pc' := 28) dX3_boughtBits_27 rfl rfl rfl ?_
      refine e_r_ishl (pc' := 29) dX3_boughtBits_28 rfl ?_
      refine e_r_ior (pc' := 30) dX3_boughtBits_29 rfl ?_
      refine e_r_istore_n (pc' := 31) (loc' := [some (.inr (.inr 36)), some (.inl (e_or v1 (e_shl 1 v2))), some (.inl v2)]) dX3_boughtBits_30 rfl rfl rfl rfl rfl ?_
      refine e_r_iinc (pc' := 34) (loc' := [some (.inr (.inr 36)), some (.inl (e_or v1 (e_shl 1 v2))), some (.inl (e_w (v2 + 1)))]) dX3_boughtBits_31 rfl rfl rfl rfl rfl ?_
      refine e_r_goto (pc' := 4) dX3_boughtBits_34 rfl ?_
      exact h
theorem wp_X3_boughtBits_trial_0 {X : e_X} {d gn : Nat} {o : e_O} (M : e_M) (h : e_G X d YX3_boughtBits 4 [some (.inr (.inr 43)), some (.inl 0), some (.inl 0)] [] (557, gn, e_RF, M) o) : e_G X d YX3_boughtBits 0 [some (.inr (.inr 43)), none, none] [] (557, gn, e_RF, M) o := by
  refine e_r_iconst (pc' := 1) dX3_boughtBits_0 rfl (by decide) ?_
  refine e_r_istore_n (pc' := 2) (loc' := [some (.inr (.inr 43)), some (.inl 0), none]) dX3_boughtBits_1 rfl rfl rfl rfl rfl ?_
  refine e_r_iconst (pc' := 3) dX3_boughtBits_2 rfl (by decide) ?_
  refine e_r_istore_n (pc' := 4) (loc' := [some (.inr (.inr 43)), some (.inl 0), some (.inl 0)]) dX3_boughtBits_3 rfl rfl rfl rfl rfl ?_
  exact h
theorem wp_X3_boughtBits_trial_4 {X : e_X} {d gn : Nat} {o : e_O} (M : e_M) (v1 v2 : Int) (h : (((M 4 0) ≤ v2 → (o = (.inl (some (.inl v1)), (557, gn, e_RF, M)))) ∧ (¬ ((M 4 0) ≤ v2) → ((0 ≤ v2 ∧ v2 < 6) ∧ (((M 47 v2.toNat) = (-1) → e_G X d YX3_boughtBits 4 [some (.inr (.inr 43)), some (.inl v1), some (.inl (e_w (v2 + 1)))] [] (557, gn, e_RF, M) o) ∧ (¬ ((M 47 v2.toNat) = (-1)) → e_G X d YX3_boughtBits 4 [some (.inr (.inr 43)), some (.inl (e_or v1 (e_shl 1 v2))), some (.inl (e_w (v2 + 1)))] [] (557, gn, e_RF, M) o)))))) : e_G X d YX3_boughtBits 4 [some (.inr (.inr 43)), some (.inl v1), some (.inl v2)] [] (557, gn, e_RF, M) o := by
  refine e_r_iload_n (pc' := 5) dX3_boughtBits_4 rfl rfl rfl ?_
  refine e_r_aload_n (pc' := 6) (by decide) dX3_boughtBits_5 rfl rfl rfl ?_
  refine e_r_getr (k := 0) (q := 4) (pc' := 9) cl_3 rfl (Nat.le_of_ble_eq_true rfl) rfl rfl fl_RX3_40 rfl (Nat.le_of_ble_eq_true rfl) dX3_boughtBits_6 rfl ?_
  refine e_r_geti (k := 0) (pc' := 12) cl_8 rfl (Nat.le_of_ble_eq_true rfl) rfl rfl fl_RX3_58 dX3_boughtBits_9 rfl ?_
  obtain ⟨ht1, hf2⟩ := h
  refine e_r_icmp_ge (tgt := 37) (pc' := 15) dX3_boughtBits_12 rfl rfl (fun c => ?_) (fun c => ?_)
  · have h := ht1 c
    refine e_r_iload_n (pc' := 38) dX3_boughtBits_37 rfl rfl rfl ?_
    exact e_r_iret (ty := .int) rfl (e_nI _) dX3_boughtBits_38 h
  · have h := hf2 c
    refine e_r_aload_n (pc' := 16) (by decide) dX3_boughtBits_15 rfl rfl rfl ?_
    refine e_r_getr (k := 8) (q := 47) (pc' := 19) cl_3 rfl (Nat.le_of_ble_eq_true rfl) rfl rfl fl_RX3_31 rfl (Nat.le_of_ble_eq_true rfl) dX3_boughtBits_16 rfl ?_
    refine e_r_iload_n (pc' := 20) dX3_boughtBits_19 rfl rfl rfl ?_
    obtain ⟨hb3, h⟩ := h
    refine e_r_iald (j9 := v2.toNat) (pc' := 21) rfl (Nat.le_of_ble_eq_true rfl) hb3.1 hb3.2 rfl dX3_boughtBits_20 rfl ?_
    refine e_r_iconst (pc' := 22) dX3_boughtBits_21 rfl (by decide) ?_
    obtain ⟨ht4, hf5⟩ := h
    refine e_r_icmp_eq (tgt := 31) (pc' := 25) dX3_boughtBits_22 rfl rfl (fun c => ?_) (fun c => ?_)
    · have h := ht4 c
      refine e_r_iinc (pc' := 34) (loc' := [some (.inr (.inr 43)), some (.inl v1), some (.inl (e_w (v2 + 1)))]) dX3_boughtBits_31 rfl rfl rfl rfl rfl ?_
      refine e_r_goto (pc' := 4) dX3_boughtBits_34 rfl ?_
      exact h
    · have h := hf5 c
      refine e_r_iload_n (pc' := 26) dX3_boughtBits_25 rfl rfl rfl ?_
      refine e_r_iconst (pc' := 27) dX3_boughtBits_26 rfl (by decide) ?_
      refine e_r_iload_n (pc' := 28) dX3_boughtBits_27 rfl rfl rfl ?_
      refine e_r_ishl (pc' := 29) dX3_boughtBits_28 rfl ?_
      refine e_r_ior (pc' := 30) dX3_boughtBits_29 rfl ?_
      refine e_r_istore_n (pc' := 31) (loc' := [some (.inr (.inr 43)), some (.inl (e_or v1 (e_shl 1 v2))), some (.inl v2)]) dX3_boughtBits_30 rfl rfl rfl rfl rfl ?_
      refine e_r_iinc (pc' := 34) (loc' := [some (.inr (.inr 43)), some (.inl (e_or v1 (e_shl 1 v2))), some (.inl (e_w (v2 + 1)))]) dX3_boughtBits_31 rfl rfl rfl rfl rfl ?_
      refine e_r_goto (pc' := 4) dX3_boughtBits_34 rfl ?_
      exact h
theorem wp_X3_stayingBits_now_0 {X : e_X} {d gn : Nat} {o : e_O} (M : e_M) (hmo : e_mn (557, gn, e_RF, M) o.2) (h : (∃ (r2 : Int) (N1 : e_M), e_E X d YX10_bitsBelow [.inl (M 4 0)] (557, gn, e_RF, M) (.inl (some (.inl r2)), (557, gn, e_RF, N1)) ∧ (∃ (r5 : Int) (N4 : e_M), e_E X d YX3_boughtBits [.inr (.inr 36)] (557, gn, e_RF, N1) (.inl (some (.inl r5)), (557, gn, e_RF, N4)) ∧ (o = (.inl (some (.inl (e_and r2 (e_xor r5 (-1))))), (557, gn, e_RF, N4)))))) : e_G X (d + 1) YX3_stayingBits 0 [some (.inr (.inr 36))] [] (557, gn, e_RF, M) o := by
  refine e_r_aload_n (pc' := 1) (by decide) dX3_stayingBits_0 rfl rfl rfl ?_
  refine e_r_getr (k := 0) (q := 4) (pc' := 4) cl_3 rfl (Nat.le_of_ble_eq_true rfl) rfl rfl fl_RX3_40 rfl (Nat.le_of_ble_eq_true rfl) dX3_stayingBits_1 rfl ?_
  refine e_r_geti (k := 0) (pc' := 7) cl_8 rfl (Nat.le_of_ble_eq_true rfl) rfl rfl fl_RX3_58 dX3_stayingBits_4 rfl ?_
  obtain ⟨r2, N1, he3, h⟩ := h
  refine e_r_callSN (av := [.inl (M 4 0)]) (st := []) mqYX10_bitsBelow nl_RX3_61 (by simp [e_cat]) rfl rfl rfl dX3_stayingBits_7 (pc' := 10) rfl he3 ⟨Nat.le_refl _, Nat.le_refl _⟩ hmo ?_
  refine e_r_aload_n (pc' := 11) (by decide) dX3_stayingBits_10 rfl rfl rfl ?_
  obtain ⟨r5, N4, he6, h⟩ := h
  refine e_r_callV (a := 36) (av := []) (st := [.inl r2]) mqYX3_boughtBits ml_RX3_65 cl_3 rfl (Nat.le_of_ble_eq_true rfl) (by simp [e_cat]) rfl rfl rfl dX3_stayingBits_11 (pc' := 14) rfl he6 ⟨Nat.le_refl _, Nat.le_refl _⟩ hmo ?_
  refine e_r_iconst (pc' := 15) dX3_stayingBits_14 rfl (by decide) ?_
  refine e_r_ixor (pc' := 16) dX3_stayingBits_15 rfl ?_
  refine e_r_iand (pc' := 17) dX3_stayingBits_16 rfl ?_
  exact e_r_iret (ty := .int) rfl (e_nI _) dX3_stayingBits_17 h
theorem wp_X3_stayingBits_trial_0 {X : e_X} {d gn : Nat} {o : e_O} (M : e_M) (hmo : e_mn (557, gn, e_RF, M) o.2) (h : (∃ (r2 : Int) (N1 : e_M), e_E X d YX10_bitsBelow [.inl (M 4 0)] (557, gn, e_RF, M) (.inl (some (.inl r2)), (557, gn, e_RF, N1)) ∧ (∃ (r5 : Int) (N4 : e_M), e_E X d YX3_boughtBits [.inr (.inr 43)] (557, gn, e_RF, N1) (.inl (some (.inl r5)), (557, gn, e_RF, N4)) ∧ (o = (.inl (some (.inl (e_and r2 (e_xor r5 (-1))))), (557, gn, e_RF, N4)))))) : e_G X (d + 1) YX3_stayingBits 0 [some (.inr (.inr 43))] [] (557, gn, e_RF, M) o := by
  refine e_r_aload_n (pc' := 1) (by decide) dX3_stayingBits_0 rfl rfl rfl ?_
  refine e_r_getr (k := 0) (q := 4) (pc' := 4) cl_3 rfl (Nat.le_of_ble_eq_true rfl) rfl rfl fl_RX3_40 rfl (Nat.le_of_ble_eq_true rfl) dX3_stayingBits_1 rfl ?_
  refine e_r_geti (k := 0) (pc' := 7) cl_8 rfl (Nat.le_of_ble_eq_true rfl) rfl rfl fl_RX3_58 dX3_stayingBits_4 rfl ?_
  obtain ⟨r2, N1, he3, h⟩ := h
  refine e_r_callSN (av := [.inl (M 4 0)]) (st := []) mqYX10_bitsBelow nl_RX3_61 (by simp [e_cat]) rfl rfl rfl dX3_stayingBits_7 (pc' := 10) rfl he3 ⟨Nat.le_refl _, Nat.le_refl _⟩ hmo ?_
  refine e_r_aload_n (pc' := 11) (by decide) dX3_stayingBits_10 rfl rfl rfl ?_
  obtain ⟨r5, N4, he6, h⟩ := h
  refine e_r_callV (a := 43) (av := []) (st := [.inl r2]) mqYX3_boughtBits ml_RX3_65 cl_3 rfl (Nat.le_of_ble_eq_true rfl) (by simp [e_cat]) rfl rfl rfl dX3_stayingBits_11 (pc' := 14) rfl he6 ⟨Nat.le_refl _, Nat.le_refl _⟩ hmo ?_
  refine e_r_iconst (pc' := 15) dX3_stayingBits_14 rfl (by decide) ?_
  refine e_r_ixor (pc' := 16) dX3_stayingBits_15 rfl ?_
  refine e_r_iand (pc' := 17) dX3_stayingBits_16 rfl ?_
  exact e_r_iret (ty := .int) rfl (e_nI _) dX3_stayingBits_17 h
theorem wp_X3_leftBy_now_0 {X : e_X} {d gn : Nat} {o : e_O} (M : e_M) (p1 : Int) (hmo : e_mn (557, gn, e_RF, M) o.2) (h : (∃ (r2 : Int) (N1 : e_M), e_E X d YX10_bitsBelow [.inl (M 4 1)] (557, gn, e_RF, M) (.inl (some (.inl r2)), (557, gn, e_RF, N1)) ∧ (∃ (r5 : Int) (N4 : e_M), e_E X d YX8_skillsOf [.inr (.inr 4), .inl p1] (557, gn, e_RF, N1) (.inl (some (.inl r5)), (557, gn, e_RF, N4)) ∧ (o = (.inl (some (.inl (e_and r2 (e_xor r5 (-1))))), (557, gn, e_RF, N4)))))) : e_G X (d + 1) YX3_leftBy 0 [some (.inr (.inr 36)), some (.inl p1)] [] (557, gn, e_RF, M) o := by
  refine e_r_aload_n (pc' := 1) (by decide) dX3_leftBy_0 rfl rfl rfl ?_
  refine e_r_getr (k := 0) (q := 4) (pc' := 4) cl_3 rfl (Nat.le_of_ble_eq_true rfl) rfl rfl fl_RX3_40 rfl (Nat.le_of_ble_eq_true rfl) dX3_leftBy_1 rfl ?_
  refine e_r_geti (k := 1) (pc' := 7) cl_8 rfl (Nat.le_of_ble_eq_true rfl) rfl rfl fl_RX3_69 dX3_leftBy_4 rfl ?_
  obtain ⟨r2, N1, he3, h⟩ := h
  refine e_r_callSN (av := [.inl (M 4 1)]) (st := []) mqYX10_bitsBelow nl_RX3_61 (by simp [e_cat]) rfl rfl rfl dX3_leftBy_7 (pc' := 10) rfl he3 ⟨Nat.le_refl _, Nat.le_refl _⟩ hmo ?_
  refine e_r_aload_n (pc' := 11) (by decide) dX3_leftBy_10 rfl rfl rfl ?_
  refine e_r_getr (k := 0) (q := 4) (pc' := 14) cl_3 rfl (Nat.le_of_ble_eq_true rfl) rfl rfl fl_RX3_40 rfl (Nat.le_of_ble_eq_true rfl) dX3_leftBy_11 rfl ?_
  refine e_r_iload_n (pc' := 15) dX3_leftBy_14 rfl rfl rfl ?_
  obtain ⟨r5, N4, he6, h⟩ := h
  refine e_r_callV (a := 4) (av := [.inl p1]) (st := [.inl r2]) mqYX8_skillsOf ml_RX3_72 cl_8 rfl (Nat.le_of_ble_eq_true rfl) (by simp [e_cat]) rfl rfl rfl dX3_leftBy_15 (pc' := 18) rfl he6 ⟨Nat.le_refl _, Nat.le_refl _⟩ hmo ?_
  refine e_r_iconst (pc' := 19) dX3_leftBy_18 rfl (by decide) ?_
  refine e_r_ixor (pc' := 20) dX3_leftBy_19 rfl ?_
  refine e_r_iand (pc' := 21) dX3_leftBy_20 rfl ?_
  exact e_r_iret (ty := .int) rfl (e_nI _) dX3_leftBy_21 h
theorem wp_X3_leftBy_trial_0 {X : e_X} {d gn : Nat} {o : e_O} (M : e_M) (p1 : Int) (hmo : e_mn (557, gn, e_RF, M) o.2) (h : (∃ (r2 : Int) (N1 : e_M), e_E X d YX10_bitsBelow [.inl (M 4 1)] (557, gn, e_RF, M) (.inl (some (.inl r2)), (557, gn, e_RF, N1)) ∧ (∃ (r5 : Int) (N4 : e_M), e_E X d YX8_skillsOf [.inr (.inr 4), .inl p1] (557, gn, e_RF, N1) (.inl (some (.inl r5)), (557, gn, e_RF, N4)) ∧ (o = (.inl (some (.inl (e_and r2 (e_xor r5 (-1))))), (557, gn, e_RF, N4)))))) : e_G X (d + 1) YX3_leftBy 0 [some (.inr (.inr 43)), some (.inl p1)] [] (557, gn, e_RF, M) o := by
  refine e_r_aload_n (pc' := 1) (by decide) dX3_leftBy_0 rfl rfl rfl ?_
  refine e_r_getr (k := 0) (q := 4) (pc' := 4) cl_3 rfl (Nat.le_of_ble_eq_true rfl) rfl rfl fl_RX3_40 rfl (Nat.le_of_ble_eq_true rfl) dX3_leftBy_1 rfl ?_
  refine e_r_geti (k := 1) (pc' := 7) cl_8 rfl (Nat.le_of_ble_eq_true rfl) rfl rfl fl_RX3_69 dX3_leftBy_4 rfl ?_
  obtain ⟨r2, N1, he3, h⟩ := h
  refine e_r_callSN (av := [.inl (M 4 1)]) (st := []) mqYX10_bitsBelow nl_RX3_61 (by simp [e_cat]) rfl rfl rfl dX3_leftBy_7 (pc' := 10) rfl he3 ⟨Nat.le_refl _, Nat.le_refl _⟩ hmo ?_
  refine e_r_aload_n (pc' := 11) (by decide) dX3_leftBy_10 rfl rfl rfl ?_
  refine e_r_getr (k := 0) (q := 4) (pc' := 14) cl_3 rfl (Nat.le_of_ble_eq_true rfl) rfl rfl fl_RX3_40 rfl (Nat.le_of_ble_eq_true rfl) dX3_leftBy_11 rfl ?_
  refine e_r_iload_n (pc' := 15) dX3_leftBy_14 rfl rfl rfl ?_
  obtain ⟨r5, N4, he6, h⟩ := h
  refine e_r_callV (a := 4) (av := [.inl p1]) (st := [.inl r2]) mqYX8_skillsOf ml_RX3_72 cl_8 rfl (Nat.le_of_ble_eq_true rfl) (by simp [e_cat]) rfl rfl rfl dX3_leftBy_15 (pc' := 18) rfl he6 ⟨Nat.le_refl _, Nat.le_refl _⟩ hmo ?_
  refine e_r_iconst (pc' := 19) dX3_leftBy_18 rfl (by decide) ?_
  refine e_r_ixor (pc' := 20) dX3_leftBy_19 rfl ?_
  refine e_r_iand (pc' := 21) dX3_leftBy_20 rfl ?_
  exact e_r_iret (ty := .int) rfl (e_nI _) dX3_leftBy_21 h
theorem wp_X3_coinsOfAll_now_0 {X : e_X} {d gn : Nat} {o : e_O} (M : e_M) (h : e_G X d YX3_coinsOfAll 4 [some (.inr (.inr 36)), some (.inl 0), some (.inl 0)] [] (557, gn, e_RF, M) o) : e_G X d YX3_coinsOfAll 0 [some (.inr (.inr 36)), none, none] [] (557, gn, e_RF, M) o := by
  refine e_r_iconst (pc' := 1) dX3_coinsOfAll_0 rfl (by decide) ?_
  refine e_r_istore_n (pc' := 2) (loc' := [some (.inr (.inr 36)), some (.inl 0), none]) dX3_coinsOfAll_1 rfl rfl rfl rfl rfl ?_
  refine e_r_iconst (pc' := 3) dX3_coinsOfAll_2 rfl (by decide) ?_
  refine e_r_istore_n (pc' := 4) (loc' := [some (.inr (.inr 36)), some (.inl 0), some (.inl 0)]) dX3_coinsOfAll_3 rfl rfl rfl rfl rfl ?_
  exact h
theorem wp_X3_coinsOfAll_now_4 {X : e_X} {d gn : Nat} {o : e_O} (M : e_M) (v1 v2 : Int) (h : (((M 4 0) ≤ v2 → (o = (.inl (some (.inl v1)), (557, gn, e_RF, M)))) ∧ (¬ ((M 4 0) ≤ v2) → ((0 ≤ v2 ∧ v2 < 6) ∧ e_G X d YX3_coinsOfAll 4 [some (.inr (.inr 36)), some (.inl (e_w (v1 + (M 37 v2.toNat)))), some (.inl (e_w (v2 + 1)))] [] (557, gn, e_RF, M) o)))) : e_G X d YX3_coinsOfAll 4 [some (.inr (.inr 36)), some (.inl v1), some (.inl v2)] [] (557, gn, e_RF, M) o := by
  refine e_r_iload_n (pc' := 5) dX3_coinsOfAll_4 rfl rfl rfl ?_
  refine e_r_aload_n (pc' := 6) (by decide) dX3_coinsOfAll_5 rfl rfl rfl ?_
  refine e_r_getr (k := 0) (q := 4) (pc' := 9) cl_3 rfl (Nat.le_of_ble_eq_true rfl) rfl rfl fl_RX3_40 rfl (Nat.le_of_ble_eq_true rfl) dX3_coinsOfAll_6 rfl ?_
  refine e_r_geti (k := 0) (pc' := 12) cl_8 rfl (Nat.le_of_ble_eq_true rfl) rfl rfl fl_RX3_58 dX3_coinsOfAll_9 rfl ?_
  obtain ⟨ht1, hf2⟩ := h
  refine e_r_icmp_ge (tgt := 30) (pc' := 15) dX3_coinsOfAll_12 rfl rfl (fun c => ?_) (fun c => ?_)
  · have h := ht1 c
    refine e_r_iload_n (pc' := 31) dX3_coinsOfAll_30 rfl rfl rfl ?_
    exact e_r_iret (ty := .int) rfl (e_nI _) dX3_coinsOfAll_31 h
  · have h := hf2 c
    refine e_r_iload_n (pc' := 16) dX3_coinsOfAll_15 rfl rfl rfl ?_
    refine e_r_aload_n (pc' := 17) (by decide) dX3_coinsOfAll_16 rfl rfl rfl ?_
    refine e_r_getr (k := 5) (q := 37) (pc' := 20) cl_3 rfl (Nat.le_of_ble_eq_true rfl) rfl rfl fl_RX3_21 rfl (Nat.le_of_ble_eq_true rfl) dX3_coinsOfAll_17 rfl ?_
    refine e_r_iload_n (pc' := 21) dX3_coinsOfAll_20 rfl rfl rfl ?_
    obtain ⟨hb3, h⟩ := h
    refine e_r_iald (j9 := v2.toNat) (pc' := 22) rfl (Nat.le_of_ble_eq_true rfl) hb3.1 hb3.2 rfl dX3_coinsOfAll_21 rfl ?_
    refine e_r_iadd (pc' := 23) dX3_coinsOfAll_22 rfl ?_
    refine e_r_istore_n (pc' := 24) (loc' := [some (.inr (.inr 36)), some (.inl (e_w (v1 + (M 37 v2.toNat)))), some (.inl v2)]) dX3_coinsOfAll_23 rfl rfl rfl rfl rfl ?_
    refine e_r_iinc (pc' := 27) (loc' := [some (.inr (.inr 36)), some (.inl (e_w (v1 + (M 37 v2.toNat)))), some (.inl (e_w (v2 + 1)))]) dX3_coinsOfAll_24 rfl rfl rfl rfl rfl ?_
    refine e_r_goto (pc' := 4) dX3_coinsOfAll_27 rfl ?_
    exact h
theorem wp_X3_coinsOfAll_trial_0 {X : e_X} {d gn : Nat} {o : e_O} (M : e_M) (h : e_G X d YX3_coinsOfAll 4 [some (.inr (.inr 43)), some (.inl 0), some (.inl 0)] [] (557, gn, e_RF, M) o) : e_G X d YX3_coinsOfAll 0 [some (.inr (.inr 43)), none, none] [] (557, gn, e_RF, M) o := by
  refine e_r_iconst (pc' := 1) dX3_coinsOfAll_0 rfl (by decide) ?_
  refine e_r_istore_n (pc' := 2) (loc' := [some (.inr (.inr 43)), some (.inl 0), none]) dX3_coinsOfAll_1 rfl rfl rfl rfl rfl ?_
  refine e_r_iconst (pc' := 3) dX3_coinsOfAll_2 rfl (by decide) ?_
  refine e_r_istore_n (pc' := 4) (loc' := [some (.inr (.inr 43)), some (.inl 0), some (.inl 0)]) dX3_coinsOfAll_3 rfl rfl rfl rfl rfl ?_
  exact h
theorem wp_X3_coinsOfAll_trial_4 {X : e_X} {d gn : Nat} {o : e_O} (M : e_M) (v1 v2 : Int) (h : (((M 4 0) ≤ v2 → (o = (.inl (some (.inl v1)), (557, gn, e_RF, M)))) ∧ (¬ ((M 4 0) ≤ v2) → ((0 ≤ v2 ∧ v2 < 6) ∧ e_G X d YX3_coinsOfAll 4 [some (.inr (.inr 43)), some (.inl (e_w (v1 + (M 44 v2.toNat)))), some (.inl (e_w (v2 + 1)))] [] (557, gn, e_RF, M) o)))) : e_G X d YX3_coinsOfAll 4 [some (.inr (.inr 43)), some (.inl v1), some (.inl v2)] [] (557, gn, e_RF, M) o := by
  refine e_r_iload_n (pc' := 5) dX3_coinsOfAll_4 rfl rfl rfl ?_
  refine e_r_aload_n (pc' := 6) (by decide) dX3_coinsOfAll_5 rfl rfl rfl ?_
  refine e_r_getr (k := 0) (q := 4) (pc' := 9) cl_3 rfl (Nat.le_of_ble_eq_true rfl) rfl rfl fl_RX3_40 rfl (Nat.le_of_ble_eq_true rfl) dX3_coinsOfAll_6 rfl ?_
  refine e_r_geti (k := 0) (pc' := 12) cl_8 rfl (Nat.le_of_ble_eq_true rfl) rfl rfl fl_RX3_58 dX3_coinsOfAll_9 rfl ?_
  obtain ⟨ht1, hf2⟩ := h
  refine e_r_icmp_ge (tgt := 30) (pc' := 15) dX3_coinsOfAll_12 rfl rfl (fun c => ?_) (fun c => ?_)
  · have h := ht1 c
    refine e_r_iload_n (pc' := 31) dX3_coinsOfAll_30 rfl rfl rfl ?_
    exact e_r_iret (ty := .int) rfl (e_nI _) dX3_coinsOfAll_31 h
  · have h := hf2 c
    refine e_r_iload_n (pc' := 16) dX3_coinsOfAll_15 rfl rfl rfl ?_
    refine e_r_aload_n (pc' := 17) (by decide) dX3_coinsOfAll_16 rfl rfl rfl ?_
    refine e_r_getr (k := 5) (q := 44) (pc' := 20) cl_3 rfl (Nat.le_of_ble_eq_true rfl) rfl rfl fl_RX3_21 rfl (Nat.le_of_ble_eq_true rfl) dX3_coinsOfAll_17 rfl ?_
    refine e_r_iload_n (pc' := 21) dX3_coinsOfAll_20 rfl rfl rfl ?_
    obtain ⟨hb3, h⟩ := h
    refine e_r_iald (j9 := v2.toNat) (pc' := 22) rfl (Nat.le_of_ble_eq_true rfl) hb3.1 hb3.2 rfl dX3_coinsOfAll_21 rfl ?_
    refine e_r_iadd (pc' := 23) dX3_coinsOfAll_22 rfl ?_
    refine e_r_istore_n (pc' := 24) (loc' := [some (.inr (.inr 43)), some (.inl (e_w (v1 + (M 44 v2.toNat)))), some (.inl v2)]) dX3_coinsOfAll_23 rfl rfl rfl rfl rfl ?_
    refine e_r_iinc (pc' := 27) (loc' := [some (.inr (.inr 43)), some (.inl (e_w (v1 + (M 44 v2.toNat)))), some (.inl (e_w (v2 + 1)))]) dX3_coinsOfAll_24 rfl rfl rfl rfl rfl ?_
    refine e_r_goto (pc' := 4) dX3_coinsOfAll_27 rfl ?_
    exact h
theorem wp_X3_daysOfAll_now_0 {X : e_X} {d gn : Nat} {o : e_O} (M : e_M) (hmo : e_mn (557, gn, e_RF, M) o.2) (h : (∃ (r2 : Int) (N1 : e_M), e_E X d YX3_mostDays [.inr (.inr 36)] (557, gn, e_RF, M) (.inl (some (.inl r2)), (557, gn, e_RF, N1)) ∧ (∃ (r5 : Int) (N4 : e_M), e_E X d YX10_bitsBelow [.inl (N1 4 0)] (557, gn, e_RF, N1) (.inl (some (.inl r5)), (557, gn, e_RF, N4)) ∧ (∃ (r8 : Int) (N7 : e_M), e_E X d YX3_daysUpTo [.inr (.inr 36), .inl r2, .inl r5] (557, gn, e_RF, N4) (.inl (some (.inl r8)), (557, gn, e_RF, N7)) ∧ (o = (.inl (some (.inl r8)), (557, gn, e_RF, N7))))))) : e_G X (d + 1) YX3_daysOfAll 0 [some (.inr (.inr 36))] [] (557, gn, e_RF, M) o := by
  refine e_r_aload_n (pc' := 1) (by decide) dX3_daysOfAll_0 rfl rfl rfl ?_
  refine e_r_aload_n (pc' := 2) (by decide) dX3_daysOfAll_1 rfl rfl rfl ?_
  obtain ⟨r2, N1, he3, h⟩ := h
  refine e_r_callV (a := 36) (av := []) (st := [.inr (.inr 36)]) mqYX3_mostDays ml_RX3_75 cl_3 rfl (Nat.le_of_ble_eq_true rfl) (by simp [e_cat]) rfl rfl rfl dX3_daysOfAll_2 (pc' := 5) rfl he3 ⟨Nat.le_refl _, Nat.le_refl _⟩ hmo ?_
  refine e_r_aload_n (pc' := 6) (by decide) dX3_daysOfAll_5 rfl rfl rfl ?_
  refine e_r_getr (k := 0) (q := 4) (pc' := 9) cl_3 rfl (Nat.le_of_ble_eq_true rfl) rfl rfl fl_RX3_40 rfl (Nat.le_of_ble_eq_true rfl) dX3_daysOfAll_6 rfl ?_
  refine e_r_geti (k := 0) (pc' := 12) cl_8 rfl (Nat.le_of_ble_eq_true rfl) rfl rfl fl_RX3_58 dX3_daysOfAll_9 rfl ?_
  obtain ⟨r5, N4, he6, h⟩ := h
  refine e_r_callSN (av := [.inl (N1 4 0)]) (st := [.inl r2, .inr (.inr 36)]) mqYX10_bitsBelow nl_RX3_61 (by simp [e_cat]) rfl rfl rfl dX3_daysOfAll_12 (pc' := 15) rfl he6 ⟨Nat.le_refl _, Nat.le_refl _⟩ hmo ?_
  obtain ⟨r8, N7, he9, h⟩ := h
  refine e_r_callV (a := 36) (av := [.inl r2, .inl r5]) (st := []) mqYX3_daysUpTo ml_RX3_78 cl_3 rfl (Nat.le_of_ble_eq_true rfl) (by simp [e_cat]) rfl rfl rfl dX3_daysOfAll_15 (pc' := 18) rfl he9 ⟨Nat.le_refl _, Nat.le_refl _⟩ hmo ?_
  exact e_r_iret (ty := .int) rfl (e_nI _) dX3_daysOfAll_18 h
theorem wp_X3_daysOfAll_trial_0 {X : e_X} {d gn : Nat} {o : e_O} (M : e_M) (hmo : e_mn (557, gn, e_RF, M) o.2) (h : (∃ (r2 : Int) (N1 : e_M), e_E X d YX3_mostDays [.inr (.inr 43)] (557, gn, e_RF, M) (.inl (some (.inl r2)), (557, gn, e_RF, N1)) ∧ (∃ (r5 : Int) (N4 : e_M), e_E X d YX10_bitsBelow [.inl (N1 4 0)] (557, gn, e_RF, N1) (.inl (some (.inl r5)), (557, gn, e_RF, N4)) ∧ (∃ (r8 : Int) (N7 : e_M), e_E X d YX3_daysUpTo [.inr (.inr 43), .inl r2, .inl r5] (557, gn, e_RF, N4) (.inl (some (.inl r8)), (557, gn, e_RF, N7)) ∧ (o = (.inl (some (.inl r8)), (557, gn, e_RF, N7))))))) : e_G X (d + 1) YX3_daysOfAll 0 [some (.inr (.inr 43))] [] (557, gn, e_RF, M) o := by
  refine e_r_aload_n (pc' := 1) (by decide) dX3_daysOfAll_0 rfl rfl rfl ?_
  refine e_r_aload_n (pc' := 2) (by decide) dX3_daysOfAll_1 rfl rfl rfl ?_
  obtain ⟨r2, N1, he3, h⟩ := h
  refine e_r_callV (a := 43) (av := []) (st := [.inr (.inr 43)]) mqYX3_mostDays ml_RX3_75 cl_3 rfl (Nat.le_of_ble_eq_true rfl) (by simp [e_cat]) rfl rfl rfl dX3_daysOfAll_2 (pc' := 5) rfl he3 ⟨Nat.le_refl _, Nat.le_refl _⟩ hmo ?_
  refine e_r_aload_n (pc' := 6) (by decide) dX3_daysOfAll_5 rfl rfl rfl ?_
  refine e_r_getr (k := 0) (q := 4) (pc' := 9) cl_3 rfl (Nat.le_of_ble_eq_true rfl) rfl rfl fl_RX3_40 rfl (Nat.le_of_ble_eq_true rfl) dX3_daysOfAll_6 rfl ?_
  refine e_r_geti (k := 0) (pc' := 12) cl_8 rfl (Nat.le_of_ble_eq_true rfl) rfl rfl fl_RX3_58 dX3_daysOfAll_9 rfl ?_
  obtain ⟨r5, N4, he6, h⟩ := h
  refine e_r_callSN (av := [.inl (N1 4 0)]) (st := [.inl r2, .inr (.inr 43)]) mqYX10_bitsBelow nl_RX3_61 (by simp [e_cat]) rfl rfl rfl dX3_daysOfAll_12 (pc' := 15) rfl he6 ⟨Nat.le_refl _, Nat.le_refl _⟩ hmo ?_
  obtain ⟨r8, N7, he9, h⟩ := h
  refine e_r_callV (a := 43) (av := [.inl r2, .inl r5]) (st := []) mqYX3_daysUpTo ml_RX3_78 cl_3 rfl (Nat.le_of_ble_eq_true rfl) (by simp [e_cat]) rfl rfl rfl dX3_daysOfAll_15 (pc' := 18) rfl he9 ⟨Nat.le_refl _, Nat.le_refl _⟩ hmo ?_
  exact e_r_iret (ty := .int) rfl (e_nI _) dX3_daysOfAll_18 h
theorem wp_X3_mostDays_now_0 {X : e_X} {d gn : Nat} {o : e_O} (M : e_M) (h : e_G X (d + 1) YX3_mostDays 4 [some (.inr (.inr 36)), some (.inl 0), some (.inl 0)] [] (557, gn, e_RF, M) o) : e_G X (d + 1) YX3_mostDays 0 [some (.inr (.inr 36)), none, none] [] (557, gn, e_RF, M) o := by
  refine e_r_iconst (pc' := 1) dX3_mostDays_0 rfl (by decide) ?_
  refine e_r_istore_n (pc' := 2) (loc' := [some (.inr (.inr 36)), some (.inl 0), none]) dX3_mostDays_1 rfl rfl rfl rfl rfl ?_
  refine e_r_iconst (pc' := 3) dX3_mostDays_2 rfl (by decide) ?_
  refine e_r_istore_n (pc' := 4) (loc' := [some (.inr (.inr 36)), some (.inl 0), some (.inl 0)]) dX3_mostDays_3 rfl rfl rfl rfl rfl ?_
  exact h
theorem wp_X3_mostDays_now_4 {X : e_X} {d gn : Nat} {o : e_O} (M : e_M) (v1 v2 : Int) (h : (((M 4 0) ≤ v2 → (o = (.inl (some (.inl v1)), (557, gn, e_RF, M)))) ∧ (¬ ((M 4 0) ≤ v2) → ((0 ≤ v2 ∧ v2 < 6) ∧ e_G X (d + 1) YX3_mostDays 4 [some (.inr (.inr 36)), some (.inl (max v1 (M 38 v2.toNat))), some (.inl (e_w (v2 + 1)))] [] (557, gn, e_RF, M) o)))) : e_G X (d + 1) YX3_mostDays 4 [some (.inr (.inr 36)), some (.inl v1), some (.inl v2)] [] (557, gn, e_RF, M) o := by
  refine e_r_iload_n (pc' := 5) dX3_mostDays_4 rfl rfl rfl ?_
  refine e_r_aload_n (pc' := 6) (by decide) dX3_mostDays_5 rfl rfl rfl ?_
  refine e_r_getr (k := 0) (q := 4) (pc' := 9) cl_3 rfl (Nat.le_of_ble_eq_true rfl) rfl rfl fl_RX3_40 rfl (Nat.le_of_ble_eq_true rfl) dX3_mostDays_6 rfl ?_
  refine e_r_geti (k := 0) (pc' := 12) cl_8 rfl (Nat.le_of_ble_eq_true rfl) rfl rfl fl_RX3_58 dX3_mostDays_9 rfl ?_
  obtain ⟨ht1, hf2⟩ := h
  refine e_r_icmp_ge (tgt := 32) (pc' := 15) dX3_mostDays_12 rfl rfl (fun c => ?_) (fun c => ?_)
  · have h := ht1 c
    refine e_r_iload_n (pc' := 33) dX3_mostDays_32 rfl rfl rfl ?_
    exact e_r_iret (ty := .int) rfl (e_nI _) dX3_mostDays_33 h
  · have h := hf2 c
    refine e_r_iload_n (pc' := 16) dX3_mostDays_15 rfl rfl rfl ?_
    refine e_r_aload_n (pc' := 17) (by decide) dX3_mostDays_16 rfl rfl rfl ?_
    refine e_r_getr (k := 6) (q := 38) (pc' := 20) cl_3 rfl (Nat.le_of_ble_eq_true rfl) rfl rfl fl_RX3_25 rfl (Nat.le_of_ble_eq_true rfl) dX3_mostDays_17 rfl ?_
    refine e_r_iload_n (pc' := 21) dX3_mostDays_20 rfl rfl rfl ?_
    obtain ⟨hb3, h⟩ := h
    refine e_r_iald (j9 := v2.toNat) (pc' := 22) rfl (Nat.le_of_ble_eq_true rfl) hb3.1 hb3.2 rfl dX3_mostDays_21 rfl ?_
    refine e_r_max (pc' := 25) lk_RX3_82 rfl dX3_mostDays_22 rfl ?_
    refine e_r_istore_n (pc' := 26) (loc' := [some (.inr (.inr 36)), some (.inl (max v1 (M 38 v2.toNat))), some (.inl v2)]) dX3_mostDays_25 rfl rfl rfl rfl rfl ?_
    refine e_r_iinc (pc' := 29) (loc' := [some (.inr (.inr 36)), some (.inl (max v1 (M 38 v2.toNat))), some (.inl (e_w (v2 + 1)))]) dX3_mostDays_26 rfl rfl rfl rfl rfl ?_
    refine e_r_goto (pc' := 4) dX3_mostDays_29 rfl ?_
    exact h
theorem wp_X3_mostDays_trial_0 {X : e_X} {d gn : Nat} {o : e_O} (M : e_M) (h : e_G X (d + 1) YX3_mostDays 4 [some (.inr (.inr 43)), some (.inl 0), some (.inl 0)] [] (557, gn, e_RF, M) o) : e_G X (d + 1) YX3_mostDays 0 [some (.inr (.inr 43)), none, none] [] (557, gn, e_RF, M) o := by
  refine e_r_iconst (pc' := 1) dX3_mostDays_0 rfl (by decide) ?_
  refine e_r_istore_n (pc' := 2) (loc' := [some (.inr (.inr 43)), some (.inl 0), none]) dX3_mostDays_1 rfl rfl rfl rfl rfl ?_
  refine e_r_iconst (pc' := 3) dX3_mostDays_2 rfl (by decide) ?_
  refine e_r_istore_n (pc' := 4) (loc' := [some (.inr (.inr 43)), some (.inl 0), some (.inl 0)]) dX3_mostDays_3 rfl rfl rfl rfl rfl ?_
  exact h
theorem wp_X3_mostDays_trial_4 {X : e_X} {d gn : Nat} {o : e_O} (M : e_M) (v1 v2 : Int) (h : (((M 4 0) ≤ v2 → (o = (.inl (some (.inl v1)), (557, gn, e_RF, M)))) ∧ (¬ ((M 4 0) ≤ v2) → ((0 ≤ v2 ∧ v2 < 6) ∧ e_G X (d + 1) YX3_mostDays 4 [some (.inr (.inr 43)), some (.inl (max v1 (M 45 v2.toNat))), some (.inl (e_w (v2 + 1)))] [] (557, gn, e_RF, M) o)))) : e_G X (d + 1) YX3_mostDays 4 [some (.inr (.inr 43)), some (.inl v1), some (.inl v2)] [] (557, gn, e_RF, M) o := by
  refine e_r_iload_n (pc' := 5) dX3_mostDays_4 rfl rfl rfl ?_
  refine e_r_aload_n (pc' := 6) (by decide) dX3_mostDays_5 rfl rfl rfl ?_
  refine e_r_getr (k := 0) (q := 4) (pc' := 9) cl_3 rfl (Nat.le_of_ble_eq_true rfl) rfl rfl fl_RX3_40 rfl (Nat.le_of_ble_eq_true rfl) dX3_mostDays_6 rfl ?_
  refine e_r_geti (k := 0) (pc' := 12) cl_8 rfl (Nat.le_of_ble_eq_true rfl) rfl rfl fl_RX3_58 dX3_mostDays_9 rfl ?_
  obtain ⟨ht1, hf2⟩ := h
  refine e_r_icmp_ge (tgt := 32) (pc' := 15) dX3_mostDays_12 rfl rfl (fun c => ?_) (fun c => ?_)
  · have h := ht1 c
    refine e_r_iload_n (pc' := 33) dX3_mostDays_32 rfl rfl rfl ?_
    exact e_r_iret (ty := .int) rfl (e_nI _) dX3_mostDays_33 h
  · have h := hf2 c
    refine e_r_iload_n (pc' := 16) dX3_mostDays_15 rfl rfl rfl ?_
    refine e_r_aload_n (pc' := 17) (by decide) dX3_mostDays_16 rfl rfl rfl ?_
    refine e_r_getr (k := 6) (q := 45) (pc' := 20) cl_3 rfl (Nat.le_of_ble_eq_true rfl) rfl rfl fl_RX3_25 rfl (Nat.le_of_ble_eq_true rfl) dX3_mostDays_17 rfl ?_
    refine e_r_iload_n (pc' := 21) dX3_mostDays_20 rfl rfl rfl ?_
    obtain ⟨hb3, h⟩ := h
    refine e_r_iald (j9 := v2.toNat) (pc' := 22) rfl (Nat.le_of_ble_eq_true rfl) hb3.1 hb3.2 rfl dX3_mostDays_21 rfl ?_
    refine e_r_max (pc' := 25) lk_RX3_82 rfl dX3_mostDays_22 rfl ?_
    refine e_r_istore_n (pc' := 26) (loc' := [some (.inr (.inr 43)), some (.inl (max v1 (M 45 v2.toNat))), some (.inl v2)]) dX3_mostDays_25 rfl rfl rfl rfl rfl ?_
    refine e_r_iinc (pc' := 29) (loc' := [some (.inr (.inr 43)), some (.inl (max v1 (M 45 v2.toNat))), some (.inl (e_w (v2 + 1)))]) dX3_mostDays_26 rfl rfl rfl rfl rfl ?_
    refine e_r_goto (pc' := 4) dX3_mostDays_29 rfl ?_
    exact h
theorem wp_X3_daysUpTo_now_0 {X : e_X} {d gn : Nat} {o : e_O} (M : e_M) (p1 p2 : Int) (h : e_G X (d + 1) YX3_daysUpTo 5 [some (.inr (.inr 36)), some (.inl p1), some (.inl p2), some (.inl 0), some (.inl 0)] [] (557, gn, e_RF, M) o) : e_G X (d + 1) YX3_daysUpTo 0 [some (.inr (.inr 36)), some (.inl p1), some (.inl p2), none, none] [] (557, gn, e_RF, M) o := by
  refine e_r_iconst (pc' := 1) dX3_daysUpTo_0 rfl (by decide) ?_
  refine e_r_istore_n (pc' := 2) (loc' := [some (.inr (.inr 36)), some (.inl p1), some (.inl p2), some (.inl 0), none]) dX3_daysUpTo_1 rfl rfl rfl rfl rfl ?_
  refine e_r_iconst (pc' := 3) dX3_daysUpTo_2 rfl (by decide) ?_
  refine e_r_istore (pc' := 5) (loc' := [some (.inr (.inr 36)), some (.inl p1), some (.inl p2), some (.inl 0), some (.inl 0)]) dX3_daysUpTo_3 rfl rfl rfl rfl ?_
  exact h
theorem wp_X3_daysUpTo_now_5 {X : e_X} {d gn : Nat} {o : e_O} (M : e_M) (p1 p2 v3 v4 : Int) (h : (((M 4 0) ≤ v4 → (o = (.inl (some (.inl v3)), (557, gn, e_RF, M)))) ∧ (¬ ((M 4 0) ≤ v4) → (((e_and (e_shr p2 v4) 1) = 0 → e_G X (d + 1) YX3_daysUpTo 5 [some (.inr (.inr 36)), some (.inl p1), some (.inl p2), some (.inl v3), some (.inl (e_w (v4 + 1)))] [] (557, gn, e_RF, M) o) ∧ (¬ ((e_and (e_shr p2 v4) 1) = 0) → ((0 ≤ v4 ∧ v4 < 6) ∧ e_G X (d + 1) YX3_daysUpTo 5 [some (.inr (.inr 36)), some (.inl p1), some (.inl p2), some (.inl (e_w (v3 + (min p1 (M 38 v4.toNat))))), some (.inl (e_w (v4 + 1)))] [] (557, gn, e_RF, M) o)))))) : e_G X (d + 1) YX3_daysUpTo 5 [some (.inr (.inr 36)), some (.inl p1), some (.inl p2), some (.inl v3), some (.inl v4)] [] (557, gn, e_RF, M) o := by
  refine e_r_iload (pc' := 7) dX3_daysUpTo_5 rfl rfl ?_
  refine e_r_aload_n (pc' := 8) (by decide) dX3_daysUpTo_7 rfl rfl rfl ?_
  refine e_r_getr (k := 0) (q := 4) (pc' := 11) cl_3 rfl (Nat.le_of_ble_eq_true rfl) rfl rfl fl_RX3_40 rfl (Nat.le_of_ble_eq_true rfl) dX3_daysUpTo_8 rfl ?_
  refine e_r_geti (k := 0) (pc' := 14) cl_8 rfl (Nat.le_of_ble_eq_true rfl) rfl rfl fl_RX3_58 dX3_daysUpTo_11 rfl ?_
  obtain ⟨ht1, hf2⟩ := h
  refine e_r_icmp_ge (tgt := 46) (pc' := 17) dX3_daysUpTo_14 rfl rfl (fun c => ?_) (fun c => ?_)
  · have h := ht1 c
    refine e_r_iload_n (pc' := 47) dX3_daysUpTo_46 rfl rfl rfl ?_
    exact e_r_iret (ty := .int) rfl (e_nI _) dX3_daysUpTo_47 h
  · have h := hf2 c
    refine e_r_iload_n (pc' := 18) dX3_daysUpTo_17 rfl rfl rfl ?_
    refine e_r_iload (pc' := 20) dX3_daysUpTo_18 rfl rfl ?_
    refine e_r_ishr (pc' := 21) dX3_daysUpTo_20 rfl ?_
    refine e_r_iconst (pc' := 22) dX3_daysUpTo_21 rfl (by decide) ?_
    refine e_r_iand (pc' := 23) dX3_daysUpTo_22 rfl ?_
    obtain ⟨ht3, hf4⟩ := h
    refine e_r_if_eq (tgt := 40) (pc' := 26) dX3_daysUpTo_23 rfl rfl (fun c => ?_) (fun c => ?_)
    · have h := ht3 c
      refine e_r_iinc (pc' := 43) (loc' := [some (.inr (.inr 36)), some (.inl p1), some (.inl p2), some (.inl v3), some (.inl (e_w (v4 + 1)))]) dX3_daysUpTo_40 rfl rfl rfl rfl rfl ?_
      refine e_r_goto (pc' := 5) dX3_daysUpTo_43 rfl ?_
      exact h
    · have h := hf4 c
      refine e_r_iload_n (pc' := 27) dX3_daysUpTo_26 rfl rfl rfl ?_
      refine e_r_iload_n (pc' := 28) dX3_daysUpTo_27 rfl rfl rfl ?_
      refine e_r_aload_n (pc' := 29) (by decide) dX3_daysUpTo_28 rfl rfl rfl ?_
      refine e_r_getr (k := 6) (q := 38) (pc' := 32) cl_3 rfl (Nat.le_of_ble_eq_true rfl) rfl rfl fl_RX3_25 rfl (Nat.le_of_ble_eq_true rfl) dX3_daysUpTo_29 rfl ?_
      refine e_r_iload (pc' := 34) dX3_daysUpTo_32 rfl rfl ?_
      obtain ⟨hb5, h⟩ := h
      refine e_r_iald (j9 := v4.toNat) (pc' := 35) rfl (Nat.le_of_ble_eq_true rfl) hb5.1 hb5.2 rfl dX3_daysUpTo_34 rfl ?_
      refine e_r_min (pc' := 38) lk_RX3_87 rfl dX3_daysUpTo_35 rfl ?_
      refine e_r_iadd (pc' := 39) dX3_daysUpTo_38 rfl ?_
      refine e_r_istore_n (pc' := 40) (loc' := [some (.inr (.inr 36)), some (.inl p1), some (.inl p2), some (.inl (e_w (v3 + (min p1 (M 38 v4.toNat))))), some (.inl v4)]) dX3_daysUpTo_39 rfl rfl rfl rfl rfl ?_
      refine e_r_iinc (pc' := 43) (loc' := [some (.inr (.inr 36)), some (.inl p1), some (.inl p2), some (.inl (e_w (v3 + (min p1 (M 38 v4.toNat))))), some (.inl (e_w (v4 + 1)))]) dX3_daysUpTo_40 rfl rfl rfl rfl rfl ?_
      refine e_r_goto (pc' := 5) dX3_daysUpTo_43 rfl ?_
      exact h
theorem wp_X3_daysUpTo_trial_0 {X : e_X} {d gn : Nat} {o : e_O} (M : e_M) (p1 p2 : Int) (h : e_G X (d + 1) YX3_daysUpTo 5 [some (.inr (.inr 43)), some (.inl p1), some (.inl p2), some (.inl 0), some (.inl 0)] [] (557, gn, e_RF, M) o) : e_G X (d + 1) YX3_daysUpTo 0 [some (.inr (.inr 43)), some (.inl p1), some (.inl p2), none, none] [] (557, gn, e_RF, M) o := by
  refine e_r_iconst (pc' := 1) dX3_daysUpTo_0 rfl (by decide) ?_
  refine e_r_istore_n (pc' := 2) (loc' := [some (.inr (.inr 43)), some (.inl p1), some (.inl p2), some (.inl 0), none]) dX3_daysUpTo_1 rfl rfl rfl rfl rfl ?_
  refine e_r_iconst (pc' := 3) dX3_daysUpTo_2 rfl (by decide) ?_
  refine e_r_istore (pc' := 5) (loc' := [some (.inr (.inr 43)), some (.inl p1), some (.inl p2), some (.inl 0), some (.inl 0)]) dX3_daysUpTo_3 rfl rfl rfl rfl ?_
  exact h
theorem wp_X3_daysUpTo_trial_5 {X : e_X} {d gn : Nat} {o : e_O} (M : e_M) (p1 p2 v3 v4 : Int) (h : (((M 4 0) ≤ v4 → (o = (.inl (some (.inl v3)), (557, gn, e_RF, M)))) ∧ (¬ ((M 4 0) ≤ v4) → (((e_and (e_shr p2 v4) 1) = 0 → e_G X (d + 1) YX3_daysUpTo 5 [some (.inr (.inr 43)), some (.inl p1), some (.inl p2), some (.inl v3), some (.inl (e_w (v4 + 1)))] [] (557, gn, e_RF, M) o) ∧ (¬ ((e_and (e_shr p2 v4) 1) = 0) → ((0 ≤ v4 ∧ v4 < 6) ∧ e_G X (d + 1) YX3_daysUpTo 5 [some (.inr (.inr 43)), some (.inl p1), some (.inl p2), some (.inl (e_w (v3 + (min p1 (M 45 v4.toNat))))), some (.inl (e_w (v4 + 1)))] [] (557, gn, e_RF, M) o)))))) : e_G X (d + 1) YX3_daysUpTo 5 [some (.inr (.inr 43)), some (.inl p1), some (.inl p2), some (.inl v3), some (.inl v4)] [] (557, gn, e_RF, M) o := by
  refine e_r_iload (pc' := 7) dX3_daysUpTo_5 rfl rfl ?_
  refine e_r_aload_n (pc' := 8) (by decide) dX3_daysUpTo_7 rfl rfl rfl ?_
  refine e_r_getr (k := 0) (q := 4) (pc' := 11) cl_3 rfl (Nat.le_of_ble_eq_true rfl) rfl rfl fl_RX3_40 rfl (Nat.le_of_ble_eq_true rfl) dX3_daysUpTo_8 rfl ?_
  refine e_r_geti (k := 0) (pc' := 14) cl_8 rfl (Nat.le_of_ble_eq_true rfl) rfl rfl fl_RX3_58 dX3_daysUpTo_11 rfl ?_
  obtain ⟨ht1, hf2⟩ := h
  refine e_r_icmp_ge (tgt := 46) (pc' := 17) dX3_daysUpTo_14 rfl rfl (fun c => ?_) (fun c => ?_)
  · have h := ht1 c
    refine e_r_iload_n (pc' := 47) dX3_daysUpTo_46 rfl rfl rfl ?_
    exact e_r_iret (ty := .int) rfl (e_nI _) dX3_daysUpTo_47 h
  · have h := hf2 c
    refine e_r_iload_n (pc' := 18) dX3_daysUpTo_17 rfl rfl rfl ?_
    refine e_r_iload (pc' := 20) dX3_daysUpTo_18 rfl rfl ?_
    refine e_r_ishr (pc' := 21) dX3_daysUpTo_20 rfl ?_
    refine e_r_iconst (pc' := 22) dX3_daysUpTo_21 rfl (by decide) ?_
    refine e_r_iand (pc' := 23) dX3_daysUpTo_22 rfl ?_
    obtain ⟨ht3, hf4⟩ := h
    refine e_r_if_eq (tgt := 40) (pc' := 26) dX3_daysUpTo_23 rfl rfl (fun c => ?_) (fun c => ?_)
    · have h := ht3 c
      refine e_r_iinc (pc' := 43) (loc' := [some (.inr (.inr 43)), some (.inl p1), some (.inl p2), some (.inl v3), some (.inl (e_w (v4 + 1)))]) dX3_daysUpTo_40 rfl rfl rfl rfl rfl ?_
      refine e_r_goto (pc' := 5) dX3_daysUpTo_43 rfl ?_
      exact h
    · have h := hf4 c
      refine e_r_iload_n (pc' := 27) dX3_daysUpTo_26 rfl rfl rfl ?_
      refine e_r_iload_n (pc' := 28) dX3_daysUpTo_27 rfl rfl rfl ?_
      refine e_r_aload_n (pc' := 29) (by decide) dX3_daysUpTo_28 rfl rfl rfl ?_
      refine e_r_getr (k := 6) (q := 45) (pc' := 32) cl_3 rfl (Nat.le_of_ble_eq_true rfl) rfl rfl fl_RX3_25 rfl (Nat.le_of_ble_eq_true rfl) dX3_daysUpTo_29 rfl ?_
      refine e_r_iload (pc' := 34) dX3_daysUpTo_32 rfl rfl ?_
      obtain ⟨hb5, h⟩ := h
      refine e_r_iald (j9 := v4.toNat) (pc' := 35) rfl (Nat.le_of_ble_eq_true rfl) hb5.1 hb5.2 rfl dX3_daysUpTo_34 rfl ?_
      refine e_r_min (pc' := 38) lk_RX3_87 rfl dX3_daysUpTo_35 rfl ?_
      refine e_r_iadd (pc' := 39) dX3_daysUpTo_38 rfl ?_
      refine e_r_istore_n (pc' := 40) (loc' := [some (.inr (.inr 43)), some (.inl p1), some (.inl p2), some (.inl (e_w (v3 + (min p1 (M 45 v4.toNat))))), some (.inl v4)]) dX3_daysUpTo_39 rfl rfl rfl rfl rfl ?_
      refine e_r_iinc (pc' := 43) (loc' := [some (.inr (.inr 43)), some (.inl p1), some (.inl p2), some (.inl (e_w (v3 + (min p1 (M 45 v4.toNat))))), some (.inl (e_w (v4 + 1)))]) dX3_daysUpTo_40 rfl rfl rfl rfl rfl ?_
      refine e_r_goto (pc' := 5) dX3_daysUpTo_43 rfl ?_
      exact h
theorem wp_X3_isDone_now_0 {X : e_X} {d gn : Nat} {o : e_O} (M : e_M) (p1 : Int) (h : (((e_and (e_shr (M 36 4) p1) 1) = 0 → (o = (.inl (some (.inl 0)), (557, gn, e_RF, M)))) ∧ (¬ ((e_and (e_shr (M 36 4) p1) 1) = 0) → (o = (.inl (some (.inl 1)), (557, gn, e_RF, M)))))) : e_G X d YX3_isDone 0 [some (.inr (.inr 36)), some (.inl p1)] [] (557, gn, e_RF, M) o := by
  refine e_r_aload_n (pc' := 1) (by decide) dX3_isDone_0 rfl rfl rfl ?_
  refine e_r_geti (k := 4) (pc' := 4) cl_3 rfl (Nat.le_of_ble_eq_true rfl) rfl rfl fl_RX3_18 dX3_isDone_1 rfl ?_
  refine e_r_iload_n (pc' := 5) dX3_isDone_4 rfl rfl rfl ?_
  refine e_r_ishr (pc' := 6) dX3_isDone_5 rfl ?_
  refine e_r_iconst (pc' := 7) dX3_isDone_6 rfl (by decide) ?_
  refine e_r_iand (pc' := 8) dX3_isDone_7 rfl ?_
  obtain ⟨ht1, hf2⟩ := h
  refine e_r_if_eq (tgt := 15) (pc' := 11) dX3_isDone_8 rfl rfl (fun c => ?_) (fun c => ?_)
  · have h := ht1 c
    refine e_r_iconst (pc' := 16) dX3_isDone_15 rfl (by decide) ?_
    exact e_r_iret (ty := .boolean) rfl (e_nZ (by decide)) dX3_isDone_16 h
  · have h := hf2 c
    refine e_r_iconst (pc' := 12) dX3_isDone_11 rfl (by decide) ?_
    refine e_r_goto (pc' := 16) dX3_isDone_12 rfl ?_
    exact e_r_iret (ty := .boolean) rfl (e_nZ (by decide)) dX3_isDone_16 h
theorem wp_X3_isDone_trial_0 {X : e_X} {d gn : Nat} {o : e_O} (M : e_M) (p1 : Int) (h : (((e_and (e_shr (M 43 4) p1) 1) = 0 → (o = (.inl (some (.inl 0)), (557, gn, e_RF, M)))) ∧ (¬ ((e_and (e_shr (M 43 4) p1) 1) = 0) → (o = (.inl (some (.inl 1)), (557, gn, e_RF, M)))))) : e_G X d YX3_isDone 0 [some (.inr (.inr 43)), some (.inl p1)] [] (557, gn, e_RF, M) o := by
  refine e_r_aload_n (pc' := 1) (by decide) dX3_isDone_0 rfl rfl rfl ?_
  refine e_r_geti (k := 4) (pc' := 4) cl_3 rfl (Nat.le_of_ble_eq_true rfl) rfl rfl fl_RX3_18 dX3_isDone_1 rfl ?_
  refine e_r_iload_n (pc' := 5) dX3_isDone_4 rfl rfl rfl ?_
  refine e_r_ishr (pc' := 6) dX3_isDone_5 rfl ?_
  refine e_r_iconst (pc' := 7) dX3_isDone_6 rfl (by decide) ?_
  refine e_r_iand (pc' := 8) dX3_isDone_7 rfl ?_
  obtain ⟨ht1, hf2⟩ := h
  refine e_r_if_eq (tgt := 15) (pc' := 11) dX3_isDone_8 rfl rfl (fun c => ?_) (fun c => ?_)
  · have h := ht1 c
    refine e_r_iconst (pc' := 16) dX3_isDone_15 rfl (by decide) ?_
    exact e_r_iret (ty := .boolean) rfl (e_nZ (by decide)) dX3_isDone_16 h
  · have h := hf2 c
    refine e_r_iconst (pc' := 12) dX3_isDone_11 rfl (by decide) ?_
    refine e_r_goto (pc' := 16) dX3_isDone_12 rfl ?_
    exact e_r_iret (ty := .boolean) rfl (e_nZ (by decide)) dX3_isDone_16 h
theorem wp_X3_isAhead_now_0 {X : e_X} {d gn : Nat} {o : e_O} (M : e_M) (p1 : Int) (hmo : e_mn (557, gn, e_RF, M) o.2) (h : (∃ (r2 : Int) (N1 : e_M), e_E X d YX3_isDone [.inr (.inr 36), .inl p1] (557, gn, e_RF, M) (.inl (some (.inl r2)), (557, gn, e_RF, N1)) ∧ ((¬ r2 = 0 → (o = (.inl (some (.inl 0)), (557, gn, e_RF, N1)))) ∧ (r2 = 0 → ((0 ≤ p1 ∧ p1 < 12) ∧ (((N1 42 p1.toNat) < (N1 36 2) → (o = (.inl (some (.inl 0)), (557, gn, e_RF, N1)))) ∧ (¬ ((N1 42 p1.toNat) < (N1 36 2)) → (o = (.inl (some (.inl 1)), (557, gn, e_RF, N1)))))))))) : e_G X (d + 1) YX3_isAhead 0 [some (.inr (.inr 36)), some (.inl p1)] [] (557, gn, e_RF, M) o := by
  refine e_r_aload_n (pc' := 1) (by decide) dX3_isAhead_0 rfl rfl rfl ?_
  refine e_r_iload_n (pc' := 2) dX3_isAhead_1 rfl rfl rfl ?_
  obtain ⟨r2, N1, he3, h⟩ := h
  refine e_r_callV (a := 36) (av := [.inl p1]) (st := []) mqYX3_isDone ml_RX3_90 cl_3 rfl (Nat.le_of_ble_eq_true rfl) (by simp [e_cat]) rfl rfl rfl dX3_isAhead_2 (pc' := 5) rfl he3 ⟨Nat.le_refl _, Nat.le_refl _⟩ hmo ?_
  obtain ⟨ht4, hf5⟩ := h
  refine e_r_if_ne (tgt := 25) (pc' := 8) dX3_isAhead_5 rfl rfl (fun c => ?_) (fun c => ?_)
  · have h := ht4 c
    refine e_r_iconst (pc' := 26) dX3_isAhead_25 rfl (by decide) ?_
    exact e_r_iret (ty := .boolean) rfl (e_nZ (by decide)) dX3_isAhead_26 h
  · have h := hf5 c
    refine e_r_aload_n (pc' := 9) (by decide) dX3_isAhead_8 rfl rfl rfl ?_
    refine e_r_getr (k := 10) (q := 42) (pc' := 12) cl_3 rfl (Nat.le_of_ble_eq_true rfl) rfl rfl fl_RX3_37 rfl (Nat.le_of_ble_eq_true rfl) dX3_isAhead_9 rfl ?_
    refine e_r_iload_n (pc' := 13) dX3_isAhead_12 rfl rfl rfl ?_
    obtain ⟨hb6, h⟩ := h
    refine e_r_iald (j9 := p1.toNat) (pc' := 14) rfl (Nat.le_of_ble_eq_true rfl) hb6.1 hb6.2 rfl dX3_isAhead_13 rfl ?_
    refine e_r_aload_n (pc' := 15) (by decide) dX3_isAhead_14 rfl rfl rfl ?_
    refine e_r_geti (k := 2) (pc' := 18) cl_3 rfl (Nat.le_of_ble_eq_true rfl) rfl rfl fl_RX3_9 dX3_isAhead_15 rfl ?_
    obtain ⟨ht7, hf8⟩ := h
    refine e_r_icmp_lt (tgt := 25) (pc' := 21) dX3_isAhead_18 rfl rfl (fun c => ?_) (fun c => ?_)
    · have h := ht7 c
      refine e_r_iconst (pc' := 26) dX3_isAhead_25 rfl (by decide) ?_
      exact e_r_iret (ty := .boolean) rfl (e_nZ (by decide)) dX3_isAhead_26 h
    · have h := hf8 c
      refine e_r_iconst (pc' := 22) dX3_isAhead_21 rfl (by decide) ?_
      refine e_r_goto (pc' := 26) dX3_isAhead_22 rfl ?_
      exact e_r_iret (ty := .boolean) rfl (e_nZ (by decide)) dX3_isAhead_26 h
theorem wp_X3_isAhead_trial_0 {X : e_X} {d gn : Nat} {o : e_O} (M : e_M) (p1 : Int) (hmo : e_mn (557, gn, e_RF, M) o.2) (h : (∃ (r2 : Int) (N1 : e_M), e_E X d YX3_isDone [.inr (.inr 43), .inl p1] (557, gn, e_RF, M) (.inl (some (.inl r2)), (557, gn, e_RF, N1)) ∧ ((¬ r2 = 0 → (o = (.inl (some (.inl 0)), (557, gn, e_RF, N1)))) ∧ (r2 = 0 → ((0 ≤ p1 ∧ p1 < 12) ∧ (((N1 49 p1.toNat) < (N1 43 2) → (o = (.inl (some (.inl 0)), (557, gn, e_RF, N1)))) ∧ (¬ ((N1 49 p1.toNat) < (N1 43 2)) → (o = (.inl (some (.inl 1)), (557, gn, e_RF, N1)))))))))) : e_G X (d + 1) YX3_isAhead 0 [some (.inr (.inr 43)), some (.inl p1)] [] (557, gn, e_RF, M) o := by
  refine e_r_aload_n (pc' := 1) (by decide) dX3_isAhead_0 rfl rfl rfl ?_
  refine e_r_iload_n (pc' := 2) dX3_isAhead_1 rfl rfl rfl ?_
  obtain ⟨r2, N1, he3, h⟩ := h
  refine e_r_callV (a := 43) (av := [.inl p1]) (st := []) mqYX3_isDone ml_RX3_90 cl_3 rfl (Nat.le_of_ble_eq_true rfl) (by simp [e_cat]) rfl rfl rfl dX3_isAhead_2 (pc' := 5) rfl he3 ⟨Nat.le_refl _, Nat.le_refl _⟩ hmo ?_
  obtain ⟨ht4, hf5⟩ := h
  refine e_r_if_ne (tgt := 25) (pc' := 8) dX3_isAhead_5 rfl rfl (fun c => ?_) (fun c => ?_)
  · have h := ht4 c
    refine e_r_iconst (pc' := 26) dX3_isAhead_25 rfl (by decide) ?_
    exact e_r_iret (ty := .boolean) rfl (e_nZ (by decide)) dX3_isAhead_26 h
  · have h := hf5 c
    refine e_r_aload_n (pc' := 9) (by decide) dX3_isAhead_8 rfl rfl rfl ?_
    refine e_r_getr (k := 10) (q := 49) (pc' := 12) cl_3 rfl (Nat.le_of_ble_eq_true rfl) rfl rfl fl_RX3_37 rfl (Nat.le_of_ble_eq_true rfl) dX3_isAhead_9 rfl ?_
    refine e_r_iload_n (pc' := 13) dX3_isAhead_12 rfl rfl rfl ?_
    obtain ⟨hb6, h⟩ := h
    refine e_r_iald (j9 := p1.toNat) (pc' := 14) rfl (Nat.le_of_ble_eq_true rfl) hb6.1 hb6.2 rfl dX3_isAhead_13 rfl ?_
    refine e_r_aload_n (pc' := 15) (by decide) dX3_isAhead_14 rfl rfl rfl ?_
    refine e_r_geti (k := 2) (pc' := 18) cl_3 rfl (Nat.le_of_ble_eq_true rfl) rfl rfl fl_RX3_9 dX3_isAhead_15 rfl ?_
    obtain ⟨ht7, hf8⟩ := h
    refine e_r_icmp_lt (tgt := 25) (pc' := 21) dX3_isAhead_18 rfl rfl (fun c => ?_) (fun c => ?_)
    · have h := ht7 c
      refine e_r_iconst (pc' := 26) dX3_isAhead_25 rfl (by decide) ?_
      exact e_r_iret (ty := .boolean) rfl (e_nZ (by decide)) dX3_isAhead_26 h
    · have h := hf8 c
      refine e_r_iconst (pc' := 22) dX3_isAhead_21 rfl (by decide) ?_
      refine e_r_goto (pc' := 26) dX3_isAhead_22 rfl ?_
      exact e_r_iret (ty := .boolean) rfl (e_nZ (by decide)) dX3_isAhead_26 h
theorem wp_X3_fallsNow_now_0 {X : e_X} {d gn : Nat} {o : e_O} (M : e_M) (p1 : Int) (h : ((0 ≤ p1 ∧ p1 < 12) ∧ ((¬ (M 42 p1.toNat) = (M 36 2) → (o = (.inl (some (.inl 0)), (557, gn, e_RF, M)))) ∧ ((M 42 p1.toNat) = (M 36 2) → ((¬ (e_and (e_shr (M 36 4) p1) 1) = 0 → (o = (.inl (some (.inl 0)), (557, gn, e_RF, M)))) ∧ ((e_and (e_shr (M 36 4) p1) 1) = 0 → (o = (.inl (some (.inl 1)), (557, gn, e_RF, M))))))))) : e_G X d YX3_fallsNow 0 [some (.inr (.inr 36)), some (.inl p1)] [] (557, gn, e_RF, M) o := by
  refine e_r_aload_n (pc' := 1) (by decide) dX3_fallsNow_0 rfl rfl rfl ?_
  refine e_r_getr (k := 10) (q := 42) (pc' := 4) cl_3 rfl (Nat.le_of_ble_eq_true rfl) rfl rfl fl_RX3_37 rfl (Nat.le_of_ble_eq_true rfl) dX3_fallsNow_1 rfl ?_
  refine e_r_iload_n (pc' := 5) dX3_fallsNow_4 rfl rfl rfl ?_
  obtain ⟨hb1, h⟩ := h
  refine e_r_iald (j9 := p1.toNat) (pc' := 6) rfl (Nat.le_of_ble_eq_true rfl) hb1.1 hb1.2 rfl dX3_fallsNow_5 rfl ?_
  refine e_r_aload_n (pc' := 7) (by decide) dX3_fallsNow_6 rfl rfl rfl ?_
  refine e_r_geti (k := 2) (pc' := 10) cl_3 rfl (Nat.le_of_ble_eq_true rfl) rfl rfl fl_RX3_9 dX3_fallsNow_7 rfl ?_
  obtain ⟨ht2, hf3⟩ := h
  refine e_r_icmp_ne (tgt := 28) (pc' := 13) dX3_fallsNow_10 rfl rfl (fun c => ?_) (fun c => ?_)
  · have h := ht2 c
    refine e_r_iconst (pc' := 29) dX3_fallsNow_28 rfl (by decide) ?_
    exact e_r_iret (ty := .boolean) rfl (e_nZ (by decide)) dX3_fallsNow_29 h
  · have h := hf3 c
    refine e_r_aload_n (pc' := 14) (by decide) dX3_fallsNow_13 rfl rfl rfl ?_
    refine e_r_geti (k := 4) (pc' := 17) cl_3 rfl (Nat.le_of_ble_eq_true rfl) rfl rfl fl_RX3_18 dX3_fallsNow_14 rfl ?_
    refine e_r_iload_n (pc' := 18) dX3_fallsNow_17 rfl rfl rfl ?_
    refine e_r_ishr (pc' := 19) dX3_fallsNow_18 rfl ?_
    refine e_r_iconst (pc' := 20) dX3_fallsNow_19 rfl (by decide) ?_
    refine e_r_iand (pc' := 21) dX3_fallsNow_20 rfl ?_
    obtain ⟨ht4, hf5⟩ := h
    refine e_r_if_ne (tgt := 28) (pc' := 24) dX3_fallsNow_21 rfl rfl (fun c => ?_) (fun c => ?_)
    · have h := ht4 c
      refine e_r_iconst (pc' := 29) dX3_fallsNow_28 rfl (by decide) ?_
      exact e_r_iret (ty := .boolean) rfl (e_nZ (by decide)) dX3_fallsNow_29 h
    · have h := hf5 c
      refine e_r_iconst (pc' := 25) dX3_fallsNow_24 rfl (by decide) ?_
      refine e_r_goto (pc' := 29) dX3_fallsNow_25 rfl ?_
      exact e_r_iret (ty := .boolean) rfl (e_nZ (by decide)) dX3_fallsNow_29 h
theorem wp_X3_fallsNow_trial_0 {X : e_X} {d gn : Nat} {o : e_O} (M : e_M) (p1 : Int) (h : ((0 ≤ p1 ∧ p1 < 12) ∧ ((¬ (M 49 p1.toNat) = (M 43 2) → (o = (.inl (some (.inl 0)), (557, gn, e_RF, M)))) ∧ ((M 49 p1.toNat) = (M 43 2) → ((¬ (e_and (e_shr (M 43 4) p1) 1) = 0 → (o = (.inl (some (.inl 0)), (557, gn, e_RF, M)))) ∧ ((e_and (e_shr (M 43 4) p1) 1) = 0 → (o = (.inl (some (.inl 1)), (557, gn, e_RF, M))))))))) : e_G X d YX3_fallsNow 0 [some (.inr (.inr 43)), some (.inl p1)] [] (557, gn, e_RF, M) o := by
  refine e_r_aload_n (pc' := 1) (by decide) dX3_fallsNow_0 rfl rfl rfl ?_
  refine e_r_getr (k := 10) (q := 49) (pc' := 4) cl_3 rfl (Nat.le_of_ble_eq_true rfl) rfl rfl fl_RX3_37 rfl (Nat.le_of_ble_eq_true rfl) dX3_fallsNow_1 rfl ?_
  refine e_r_iload_n (pc' := 5) dX3_fallsNow_4 rfl rfl rfl ?_
  obtain ⟨hb1, h⟩ := h
  refine e_r_iald (j9 := p1.toNat) (pc' := 6) rfl (Nat.le_of_ble_eq_true rfl) hb1.1 hb1.2 rfl dX3_fallsNow_5 rfl ?_
  refine e_r_aload_n (pc' := 7) (by decide) dX3_fallsNow_6 rfl rfl rfl ?_
  refine e_r_geti (k := 2) (pc' := 10) cl_3 rfl (Nat.le_of_ble_eq_true rfl) rfl rfl fl_RX3_9 dX3_fallsNow_7 rfl ?_
  obtain ⟨ht2, hf3⟩ := h
  refine e_r_icmp_ne (tgt := 28) (pc' := 13) dX3_fallsNow_10 rfl rfl (fun c => ?_) (fun c => ?_)
  · have h := ht2 c
    refine e_r_iconst (pc' := 29) dX3_fallsNow_28 rfl (by decide) ?_
    exact e_r_iret (ty := .boolean) rfl (e_nZ (by decide)) dX3_fallsNow_29 h
  · have h := hf3 c
    refine e_r_aload_n (pc' := 14) (by decide) dX3_fallsNow_13 rfl rfl rfl ?_
    refine e_r_geti (k := 4) (pc' := 17) cl_3 rfl (Nat.le_of_ble_eq_true rfl) rfl rfl fl_RX3_18 dX3_fallsNow_14 rfl ?_
    refine e_r_iload_n (pc' := 18) dX3_fallsNow_17 rfl rfl rfl ?_
    refine e_r_ishr (pc' := 19) dX3_fallsNow_18 rfl ?_
    refine e_r_iconst (pc' := 20) dX3_fallsNow_19 rfl (by decide) ?_
    refine e_r_iand (pc' := 21) dX3_fallsNow_20 rfl ?_
    obtain ⟨ht4, hf5⟩ := h
    refine e_r_if_ne (tgt := 28) (pc' := 24) dX3_fallsNow_21 rfl rfl (fun c => ?_) (fun c => ?_)
    · have h := ht4 c
      refine e_r_iconst (pc' := 29) dX3_fallsNow_28 rfl (by decide) ?_
      exact e_r_iret (ty := .boolean) rfl (e_nZ (by decide)) dX3_fallsNow_29 h
    · have h := hf5 c
      refine e_r_iconst (pc' := 25) dX3_fallsNow_24 rfl (by decide) ?_
      refine e_r_goto (pc' := 29) dX3_fallsNow_25 rfl ?_
      exact e_r_iret (ty := .boolean) rfl (e_nZ (by decide)) dX3_fallsNow_29 h
theorem wp_X3_openTasksOn_now_0 {X : e_X} {d gn : Nat} {o : e_O} (M : e_M) (p1 : Int) (h : e_G X (d + 1) YX3_openTasksOn 4 [some (.inr (.inr 36)), some (.inl p1), some (.inl 0), some (.inl 0)] [] (557, gn, e_RF, M) o) : e_G X (d + 1) YX3_openTasksOn 0 [some (.inr (.inr 36)), some (.inl p1), none, none] [] (557, gn, e_RF, M) o := by
  refine e_r_iconst (pc' := 1) dX3_openTasksOn_0 rfl (by decide) ?_
  refine e_r_istore_n (pc' := 2) (loc' := [some (.inr (.inr 36)), some (.inl p1), some (.inl 0), none]) dX3_openTasksOn_1 rfl rfl rfl rfl rfl ?_
  refine e_r_iconst (pc' := 3) dX3_openTasksOn_2 rfl (by decide) ?_
  refine e_r_istore_n (pc' := 4) (loc' := [some (.inr (.inr 36)), some (.inl p1), some (.inl 0), some (.inl 0)]) dX3_openTasksOn_3 rfl rfl rfl rfl rfl ?_
  exact h
theorem wp_X3_openTasksOn_now_4 {X : e_X} {d gn : Nat} {o : e_O} (M : e_M) (p1 v2 v3 : Int) (hmo : e_mn (557, gn, e_RF, M) o.2) (h : (((M 4 2) ≤ v3 → (o = (.inl (some (.inl v2)), (557, gn, e_RF, M)))) ∧ (¬ ((M 4 2) ≤ v3) → (∃ (r4 : Int) (N3 : e_M), e_E X d YX3_isDone [.inr (.inr 36), .inl v3] (557, gn, e_RF, M) (.inl (some (.inl r4)), (557, gn, e_RF, N3)) ∧ ((¬ r4 = 0 → e_G X (d + 1) YX3_openTasksOn 4 [some (.inr (.inr 36)), some (.inl p1), some (.inl v2), some (.inl (e_w (v3 + 1)))] [] (557, gn, e_RF, N3) o) ∧ (r4 = 0 → ((0 ≤ v3 ∧ v3 < 12) ∧ ((¬ (N3 42 v3.toNat) = p1 → e_G X (d + 1) YX3_openTasksOn 4 [some (.inr (.inr 36)), some (.inl p1), some (.inl v2), some (.inl (e_w (v3 + 1)))] [] (557, gn, e_RF, N3) o) ∧ ((N3 42 v3.toNat) = p1 → e_G X (d + 1) YX3_openTasksOn 4 [some (.inr (.inr 36)), some (.inl p1), some (.inl (e_w (v2 + 1))), some (.inl (e_w (v3 + 1)))] [] (557, gn, e_RF, N3) o))))))))) : e_G X (d + 1) YX3_openTasksOn 4 [some (.inr (.inr 36)), some (.inl p1), some (.inl v2), some (.inl v3)] [] (557, gn, e_RF, M) o := by
  refine e_r_iload_n (pc' := 5) dX3_openTasksOn_4 rfl rfl rfl ?_
  refine e_r_aload_n (pc' := 6) (by decide) dX3_openTasksOn_5 rfl rfl rfl ?_
  refine e_r_getr (k := 0) (q := 4) (pc' := 9) cl_3 rfl (Nat.le_of_ble_eq_true rfl) rfl rfl fl_RX3_40 rfl (Nat.le_of_ble_eq_true rfl) dX3_openTasksOn_6 rfl ?_
  refine e_r_geti (k := 2) (pc' := 12) cl_8 rfl (Nat.le_of_ble_eq_true rfl) rfl rfl fl_RX3_94 dX3_openTasksOn_9 rfl ?_
  obtain ⟨ht1, hf2⟩ := h
  refine e_r_icmp_ge (tgt := 42) (pc' := 15) dX3_openTasksOn_12 rfl rfl (fun c => ?_) (fun c => ?_)
  · have h := ht1 c
    refine e_r_iload_n (pc' := 43) dX3_openTasksOn_42 rfl rfl rfl ?_
    exact e_r_iret (ty := .int) rfl (e_nI _) dX3_openTasksOn_43 h
  · have h := hf2 c
    refine e_r_aload_n (pc' := 16) (by decide) dX3_openTasksOn_15 rfl rfl rfl ?_
    refine e_r_iload_n (pc' := 17) dX3_openTasksOn_16 rfl rfl rfl ?_
    obtain ⟨r4, N3, he5, h⟩ := h
    refine e_r_callV (a := 36) (av := [.inl v3]) (st := []) mqYX3_isDone ml_RX3_90 cl_3 rfl (Nat.le_of_ble_eq_true rfl) (by simp [e_cat]) rfl rfl rfl dX3_openTasksOn_17 (pc' := 20) rfl he5 ⟨Nat.le_refl _, Nat.le_refl _⟩ hmo ?_
    obtain ⟨ht6, hf7⟩ := h
    refine e_r_if_ne (tgt := 36) (pc' := 23) dX3_openTasksOn_20 rfl rfl (fun c => ?_) (fun c => ?_)
    · have h := ht6 c
      refine e_r_iinc (pc' := 39) (loc' := [some (.inr (.inr 36)), some (.inl p1), some (.inl v2), some (.inl (e_w (v3 + 1)))]) dX3_openTasksOn_36 rfl rfl rfl rfl rfl ?_
      refine e_r_goto (pc' := 4) dX3_openTasksOn_39 rfl ?_
      exact h
    · have h := hf7 c
      refine e_r_aload_n (pc' := 24) (by decide) dX3_openTasksOn_23 rfl rfl rfl ?_
      refine e_r_getr (k := 10) (q := 42) (pc' := 27) cl_3 rfl (Nat.le_of_ble_eq_true rfl) rfl rfl fl_RX3_37 rfl (Nat.le_of_ble_eq_true rfl) dX3_openTasksOn_24 rfl ?_
      refine e_r_iload_n (pc' := 28) dX3_openTasksOn_27 rfl rfl rfl ?_
      obtain ⟨hb8, h⟩ := h
      refine e_r_iald (j9 := v3.toNat) (pc' := 29) rfl (Nat.le_of_ble_eq_true rfl) hb8.1 hb8.2 rfl dX3_openTasksOn_28 rfl ?_
      refine e_r_iload_n (pc' := 30) dX3_openTasksOn_29 rfl rfl rfl ?_
      obtain ⟨ht9, hf10⟩ := h
      refine e_r_icmp_ne (tgt := 36) (pc' := 33) dX3_openTasksOn_30 rfl rfl (fun c => ?_) (fun c => ?_)
      · have h := ht9 c
        refine e_r_iinc (pc' := 39) (loc' := [some (.inr (.inr 36)), some (.inl p1), some (.inl v2), some (.inl (e_w (v3 + 1)))]) dX3_openTasksOn_36 rfl rfl rfl rfl rfl ?_
        refine e_r_goto (pc' := 4) dX3_openTasksOn_39 rfl ?_
        exact h
      · have h := hf10 c
        refine e_r_iinc (pc' := 36) (loc' := [some (.inr (.inr 36)), some (.inl p1), some (.inl (e_w (v2 + 1))), some (.inl v3)]) dX3_openTasksOn_33 rfl rfl rfl rfl rfl ?_
        refine e_r_iinc (pc' := 39) (loc' := [some (.inr (.inr 36)), some (.inl p1), some (.inl (e_w (v2 + 1))), some (.inl (e_w (v3 + 1)))]) dX3_openTasksOn_36 rfl rfl rfl rfl rfl ?_
        refine e_r_goto (pc' := 4) dX3_openTasksOn_39 rfl ?_
        exact h
theorem wp_X3_openTasksOn_trial_0 {X : e_X} {d gn : Nat} {o : e_O} (M : e_M) (p1 : Int) (h : e_G X (d + 1) YX3_openTasksOn 4 [some (.inr (.inr 43)), some (.inl p1), some (.inl 0), some (.inl 0)] [] (557, gn, e_RF, M) o) : e_G X (d + 1) YX3_openTasksOn 0 [some (.inr (.inr 43)), some (.inl p1), none, none] [] (557, gn, e_RF, M) o := by
  refine e_r_iconst (pc' := 1) dX3_openTasksOn_0 rfl (by decide) ?_
  refine e_r_istore_n (pc' := 2) (loc' := [some (.inr (.inr 43)), some (.inl p1), some (.inl 0), none]) dX3_openTasksOn_1 rfl rfl rfl rfl rfl ?_
  refine e_r_iconst (pc' := 3) dX3_openTasksOn_2 rfl (by decide) ?_
  refine e_r_istore_n (pc' := 4) (loc' := [some (.inr (.inr 43)), some (.inl p1), some (.inl 0), some (.inl 0)]) dX3_openTasksOn_3 rfl rfl rfl rfl rfl ?_
  exact h
theorem wp_X3_openTasksOn_trial_4 {X : e_X} {d gn : Nat} {o : e_O} (M : e_M) (p1 v2 v3 : Int) (hmo : e_mn (557, gn, e_RF, M) o.2) (h : (((M 4 2) ≤ v3 → (o = (.inl (some (.inl v2)), (557, gn, e_RF, M)))) ∧ (¬ ((M 4 2) ≤ v3) → (∃ (r4 : Int) (N3 : e_M), e_E X d YX3_isDone [.inr (.inr 43), .inl v3] (557, gn, e_RF, M) (.inl (some (.inl r4)), (557, gn, e_RF, N3)) ∧ ((¬ r4 = 0 → e_G X (d + 1) YX3_openTasksOn 4 [some (.inr (.inr 43)), some (.inl p1), some (.inl v2), some (.inl (e_w (v3 + 1)))] [] (557, gn, e_RF, N3) o) ∧ (r4 = 0 → ((0 ≤ v3 ∧ v3 < 12) ∧ ((¬ (N3 49 v3.toNat) = p1 → e_G X (d + 1) YX3_openTasksOn 4 [some (.inr (.inr 43)), some (.inl p1), some (.inl v2), some (.inl (e_w (v3 + 1)))] [] (557, gn, e_RF, N3) o) ∧ ((N3 49 v3.toNat) = p1 → e_G X (d + 1) YX3_openTasksOn 4 [some (.inr (.inr 43)), some (.inl p1), some (.inl (e_w (v2 + 1))), some (.inl (e_w (v3 + 1)))] [] (557, gn, e_RF, N3) o))))))))) : e_G X (d + 1) YX3_openTasksOn 4 [some (.inr (.inr 43)), some (.inl p1), some (.inl v2), some (.inl v3)] [] (557, gn, e_RF, M) o := by
  refine e_r_iload_n (pc' := 5) dX3_openTasksOn_4 rfl rfl rfl ?_
  refine e_r_aload_n (pc' := 6) (by decide) dX3_openTasksOn_5 rfl rfl rfl ?_
  refine e_r_getr (k := 0) (q := 4) (pc' := 9) cl_3 rfl (Nat.le_of_ble_eq_true rfl) rfl rfl fl_RX3_40 rfl (Nat.le_of_ble_eq_true rfl) dX3_openTasksOn_6 rfl ?_
  refine e_r_geti (k := 2) (pc' := 12) cl_8 rfl (Nat.le_of_ble_eq_true rfl) rfl rfl fl_RX3_94 dX3_openTasksOn_9 rfl ?_
  obtain ⟨ht1, hf2⟩ := h
  refine e_r_icmp_ge (tgt := 42) (pc' := 15) dX3_openTasksOn_12 rfl rfl (fun c => ?_) (fun c => ?_)
  · have h := ht1 c
    refine e_r_iload_n (pc' := 43) dX3_openTasksOn_42 rfl rfl rfl ?_
    exact e_r_iret (ty := .int) rfl (e_nI _) dX3_openTasksOn_43 h
  · have h := hf2 c
    refine e_r_aload_n (pc' := 16) (by decide) dX3_openTasksOn_15 rfl rfl rfl ?_
    refine e_r_iload_n (pc' := 17) dX3_openTasksOn_16 rfl rfl rfl ?_
    obtain ⟨r4, N3, he5, h⟩ := h
    refine e_r_callV (a := 43) (av := [.inl v3]) (st := []) mqYX3_isDone ml_RX3_90 cl_3 rfl (Nat.le_of_ble_eq_true rfl) (by simp [e_cat]) rfl rfl rfl dX3_openTasksOn_17 (pc' := 20) rfl he5 ⟨Nat.le_refl _, Nat.le_refl _⟩ hmo ?_
    obtain ⟨ht6, hf7⟩ := h
    refine e_r_if_ne (tgt := 36) (pc' := 23) dX3_openTasksOn_20 rfl rfl (fun c => ?_) (fun c => ?_)
    · have h := ht6 c
      refine e_r_iinc (pc' := 39) (loc' := [some (.inr (.inr 43)), some (.inl p1), some (.inl v2), some (.inl (e_w (v3 + 1)))]) dX3_openTasksOn_36 rfl rfl rfl rfl rfl ?_
      refine e_r_goto (pc' := 4) dX3_openTasksOn_39 rfl ?_
      exact h
    · have h := hf7 c
      refine e_r_aload_n (pc' := 24) (by decide) dX3_openTasksOn_23 rfl rfl rfl ?_
      refine e_r_getr (k := 10) (q := 49) (pc' := 27) cl_3 rfl (Nat.le_of_ble_eq_true rfl) rfl rfl fl_RX3_37 rfl (Nat.le_of_ble_eq_true rfl) dX3_openTasksOn_24 rfl ?_
      refine e_r_iload_n (pc' := 28) dX3_openTasksOn_27 rfl rfl rfl ?_
      obtain ⟨hb8, h⟩ := h
      refine e_r_iald (j9 := v3.toNat) (pc' := 29) rfl (Nat.le_of_ble_eq_true rfl) hb8.1 hb8.2 rfl dX3_openTasksOn_28 rfl ?_
      refine e_r_iload_n (pc' := 30) dX3_openTasksOn_29 rfl rfl rfl ?_
      obtain ⟨ht9, hf10⟩ := h
      refine e_r_icmp_ne (tgt := 36) (pc' := 33) dX3_openTasksOn_30 rfl rfl (fun c => ?_) (fun c => ?_)
      · have h := ht9 c
        refine e_r_iinc (pc' := 39) (loc' := [some (.inr (.inr 43)), some (.inl p1), some (.inl v2), some (.inl (e_w (v3 + 1)))]) dX3_openTasksOn_36 rfl rfl rfl rfl rfl ?_
        refine e_r_goto (pc' := 4) dX3_openTasksOn_39 rfl ?_
        exact h
      · have h := hf10 c
        refine e_r_iinc (pc' := 36) (loc' := [some (.inr (.inr 43)), some (.inl p1), some (.inl (e_w (v2 + 1))), some (.inl v3)]) dX3_openTasksOn_33 rfl rfl rfl rfl rfl ?_
        refine e_r_iinc (pc' := 39) (loc' := [some (.inr (.inr 43)), some (.inl p1), some (.inl (e_w (v2 + 1))), some (.inl (e_w (v3 + 1)))]) dX3_openTasksOn_36 rfl rfl rfl rfl rfl ?_
        refine e_r_goto (pc' := 4) dX3_openTasksOn_39 rfl ?_
        exact h
theorem wp_X3_busyBits_now_0 {X : e_X} {d gn : Nat} {o : e_O} (M : e_M) (p1 p2 : Int) (h : e_G X (d + 1) YX3_busyBits 5 [some (.inr (.inr 36)), some (.inl p1), some (.inl p2), some (.inl 0), some (.inl 0), none] [] (557, gn, e_RF, M) o) : e_G X (d + 1) YX3_busyBits 0 [some (.inr (.inr 36)), some (.inl p1), some (.inl p2), none, none, none] [] (557, gn, e_RF, M) o := by
  refine e_r_iconst (pc' := 1) dX3_busyBits_0 rfl (by decide) ?_
  refine e_r_istore_n (pc' := 2) (loc' := [some (.inr (.inr 36)), some (.inl p1), some (.inl p2), some (.inl 0), none, none]) dX3_busyBits_1 rfl rfl rfl rfl rfl ?_
  refine e_r_iconst (pc' := 3) dX3_busyBits_2 rfl (by decide) ?_
  refine e_r_istore (pc' := 5) (loc' := [some (.inr (.inr 36)), some (.inl p1), some (.inl p2), some (.inl 0), some (.inl 0), none]) dX3_busyBits_3 rfl rfl rfl rfl ?_
  exact h
theorem wp_X3_busyBits_now_5 {X : e_X} {d gn : Nat} {o : e_O} (M : e_M) (p1 p2 v3 v4 : Int) (hmo : e_mn (557, gn, e_RF, M) o.2) (h : (((M 4 2) ≤ v4 → (o = (.inl (some (.inl v3)), (557, gn, e_RF, M)))) ∧ (¬ ((M 4 2) ≤ v4) → ((0 ≤ v4 ∧ v4 < 12) ∧ ((0 ≤ v4 ∧ v4 < 12) ∧ ((¬ (M 9 v4.toNat) = p1 → e_G X (d + 1) YX3_busyBits 5 [some (.inr (.inr 36)), some (.inl p1), some (.inl p2), some (.inl v3), some (.inl (e_w (v4 + 1))), none] [] (557, gn, e_RF, M) o) ∧ ((M 9 v4.toNat) = p1 → (∃ (r8 : Int) (N7 : e_M), e_E X d YX3_isDone [.inr (.inr 36), .inl v4] (557, gn, e_RF, M) (.inl (some (.inl r8)), (557, gn, e_RF, N7)) ∧ ((¬ r8 = 0 → e_G X (d + 1) YX3_busyBits 5 [some (.inr (.inr 36)), some (.inl p1), some (.inl p2), some (.inl v3), some (.inl (e_w (v4 + 1))), none] [] (557, gn, e_RF, N7) o) ∧ (r8 = 0 → (((e_w ((M 42 v4.toNat) - (M 36 2))) < 0 → e_G X (d + 1) YX3_busyBits 5 [some (.inr (.inr 36)), some (.inl p1), some (.inl p2), some (.inl v3), some (.inl (e_w (v4 + 1))), none] [] (557, gn, e_RF, N7) o) ∧ (¬ ((e_w ((M 42 v4.toNat) - (M 36 2))) < 0) → ((p2 ≤ (e_w ((M 42 v4.toNat) - (M 36 2))) → e_G X (d + 1) YX3_busyBits 5 [some (.inr (.inr 36)), some (.inl p1), some (.inl p2), some (.inl v3), some (.inl (e_w (v4 + 1))), none] [] (557, gn, e_RF, N7) o) ∧ (¬ (p2 ≤ (e_w ((M 42 v4.toNat) - (M 36 2)))) → e_G X (d + 1) YX3_busyBits 5 [some (.inr (.inr 36)), some (.inl p1), some (.inl p2), some (.inl (e_or v3 (e_shl 1 (e_w ((M 42 v4.toNat) - (M 36 2)))))), some (.inl (e_w (v4 + 1))), none] [] (557, gn, e_RF, N7) o)))))))))))))) : e_G X (d + 1) YX3_busyBits 5 [some (.inr (.inr 36)), some (.inl p1), some (.inl p2), some (.inl v3), some (.inl v4), none] [] (557, gn, e_RF, M) o := by
  refine e_r_iload (pc' := 7) dX3_busyBits_5 rfl rfl ?_
  refine e_r_aload_n (pc' := 8) (by decide) dX3_busyBits_7 rfl rfl rfl ?_
  refine e_r_getr (k := 0) (q := 4) (pc' := 11) cl_3 rfl (Nat.le_of_ble_eq_true rfl) rfl rfl fl_RX3_40 rfl (Nat.le_of_ble_eq_true rfl) dX3_busyBits_8 rfl ?_
  refine e_r_geti (k := 2) (pc' := 14) cl_8 rfl (Nat.le_of_ble_eq_true rfl) rfl rfl fl_RX3_94 dX3_busyBits_11 rfl ?_
  obtain ⟨ht1, hf2⟩ := h
  refine e_r_icmp_ge (tgt := 78) (pc' := 17) dX3_busyBits_14 rfl rfl (fun c => ?_) (fun c => ?_)
  · have h := ht1 c
    refine e_r_iload_n (pc' := 79) dX3_busyBits_78 rfl rfl rfl ?_
    exact e_r_iret (ty := .int) rfl (e_nI _) dX3_busyBits_79 h
  · have h := hf2 c
    refine e_r_aload_n (pc' := 18) (by decide) dX3_busyBits_17 rfl rfl rfl ?_
    refine e_r_getr (k := 10) (q := 42) (pc' := 21) cl_3 rfl (Nat.le_of_ble_eq_true rfl) rfl rfl fl_RX3_37 rfl (Nat.le_of_ble_eq_true rfl) dX3_busyBits_18 rfl ?_
    refine e_r_iload (pc' := 23) dX3_busyBits_21 rfl rfl ?_
    obtain ⟨hb3, h⟩ := h
    refine e_r_iald (j9 := v4.toNat) (pc' := 24) rfl (Nat.le_of_ble_eq_true rfl) hb3.1 hb3.2 rfl dX3_busyBits_23 rfl ?_
    refine e_r_aload_n (pc' := 25) (by decide) dX3_busyBits_24 rfl rfl rfl ?_
    refine e_r_geti (k := 2) (pc' := 28) cl_3 rfl (Nat.le_of_ble_eq_true rfl) rfl rfl fl_RX3_9 dX3_busyBits_25 rfl ?_
    refine e_r_isub (pc' := 29) dX3_busyBits_28 rfl ?_
    refine e_r_istore (pc' := 31) (loc' := [some (.inr (.inr 36)), some (.inl p1), some (.inl p2), some (.inl v3), some (.inl v4), some (.inl (e_w ((M 42 v4.toNat) - (M 36 2))))]) dX3_busyBits_29 rfl rfl rfl rfl ?_
    refine e_r_aload_n (pc' := 32) (by decide) dX3_busyBits_31 rfl rfl rfl ?_
    refine e_r_getr (k := 0) (q := 4) (pc' := 35) cl_3 rfl (Nat.le_of_ble_eq_true rfl) rfl rfl fl_RX3_40 rfl (Nat.le_of_ble_eq_true rfl) dX3_busyBits_32 rfl ?_
    refine e_r_getr (k := 7) (q := 9) (pc' := 38) cl_8 rfl (Nat.le_of_ble_eq_true rfl) rfl rfl fl_RX3_97 rfl (Nat.le_of_ble_eq_true rfl) dX3_busyBits_35 rfl ?_
    refine e_r_iload (pc' := 40) dX3_busyBits_38 rfl rfl ?_
    obtain ⟨hb4, h⟩ := h
    refine e_r_iald (j9 := v4.toNat) (pc' := 41) rfl (Nat.le_of_ble_eq_true rfl) hb4.1 hb4.2 rfl dX3_busyBits_40 rfl ?_
    refine e_r_iload_n (pc' := 42) dX3_busyBits_41 rfl rfl rfl ?_
    obtain ⟨ht5, hf6⟩ := h
    refine e_r_icmp_ne (tgt := 72) (pc' := 45) dX3_busyBits_42 rfl rfl (fun c => ?_) (fun c => ?_)
    · have h := ht5 c
      refine e_r_iinc (pc' := 75) (loc' := [some (.inr (.inr 36)), some (.inl p1), some (.inl p2), some (.inl v3), some (.inl (e_w (v4 + 1))), some (.inl (e_w ((M 42 v4.toNat) - (M 36 2))))]) dX3_busyBits_72 rfl rfl rfl rfl rfl ?_
      refine e_r_goto (pc' := 5) dX3_busyBits_75 rfl ?_
      exact e_forget (m := [true, true, true, true, true, false]) h rfl
    · have h := hf6 c
      refine e_r_aload_n (pc' := 46) (by decide) dX3_busyBits_45 rfl rfl rfl ?_
      refine e_r_iload (pc' := 48) dX3_busyBits_46 rfl rfl ?_
      obtain ⟨r8, N7, he9, h⟩ := h
      refine e_r_callV (a := 36) (av := [.inl v4]) (st := []) mqYX3_isDone ml_RX3_90 cl_3 rfl (Nat.le_of_ble_eq_true rfl) (by simp [e_cat]) rfl rfl rfl dX3_busyBits_48 (pc' := 51) rfl he9 ⟨Nat.le_refl _, Nat.le_refl _⟩ hmo ?_
      obtain ⟨ht10, hf11⟩ := h
      refine e_r_if_ne (tgt := 72) (pc' := 54) dX3_busyBits_51 rfl rfl (fun c => ?_) (fun c => ?_)
      · have h := ht10 c
        refine e_r_iinc (pc' := 75) (loc' := [some (.inr (.inr 36)), some (.inl p1), some (.inl p2), some (.inl v3), some (.inl (e_w (v4 + 1))), some (.inl (e_w ((M 42 v4.toNat) - (M 36 2))))]) dX3_busyBits_72 rfl rfl rfl rfl rfl ?_
        refine e_r_goto (pc' := 5) dX3_busyBits_75 rfl ?_
        exact e_forget (m := [true, true, true, true, true, false]) h rfl
      · have h := hf11 c
        refine e_r_iload (pc' := 56) dX3_busyBits_54 rfl rfl ?_
        obtain ⟨ht12, hf13⟩ := h
        refine e_r_if_lt (tgt := 72) (pc' := 59) dX3_busyBits_56 rfl rfl (fun c => ?_) (fun c => ?_)
        · have h := ht12 c
          refine e_r_iinc (pc' := 75) (loc' := [some (.inr (.inr 36)), some (.inl p1), some (.inl p2), some (.inl v3), some (.inl (e_w (v4 + 1))), some (.inl (e_w ((M 42 v4.toNat) - (M 36 2))))]) dX3_busyBits_72 rfl rfl rfl rfl rfl ?_
          refine e_r_goto (pc' := 5) dX3_busyBits_75 rfl ?_
          exact e_forget (m := [true, true, true, true, true, false]) h rfl
        · have h := hf13 c
          refine e_r_iload (pc' := 61) dX3_busyBits_59 rfl rfl ?_
          refine e_r_iload_n (pc' := 62) dX3_busyBits_61 rfl rfl rfl ?_
          obtain ⟨ht14, hf15⟩ := h
          refine e_r_icmp_ge (tgt := 72) (pc' := 65) dX3_busyBits_62 rfl rfl (fun c => ?_) (fun c => ?_)
          · have h := ht14 c
            refine e_r_iinc (pc' := 75) (loc' := [some (.inr (.inr 36)), some (.inl p1), some (.inl p2), some (.inl v3), some (.inl (e_w (v4 + 1))), some (.inl (e_w ((M 42 v4.toNat) - (M 36 2))))]) dX3_busyBits_72 rfl rfl rfl rfl rfl ?_
            refine e_r_goto (pc' := 5) dX3_busyBits_75 rfl ?_
            exact e_forget (m := [true, true, true, true, true, false]) h rfl
          · have h := hf15 c
            refine e_r_iload_n (pc' := 66) dX3_busyBits_65 rfl rfl rfl ?_
            refine e_r_iconst (pc' := 67) dX3_busyBits_66 rfl (by decide) ?_
            refine e_r_iload (pc' := 69) dX3_busyBits_67 rfl rfl ?_
            refine e_r_ishl (pc' := 70) dX3_busyBits_69 rfl ?_
            refine e_r_ior (pc' := 71) dX3_busyBits_70 rfl ?_
            refine e_r_istore_n (pc' := 72) (loc' := [some (.inr (.inr 36)), some (.inl p1), some (.inl p2), some (.inl (e_or v3 (e_shl 1 (e_w ((M 42 v4.toNat) - (M 36 2)))))), some (.inl v4), some (.inl (e_w ((M 42 v4.toNat) - (M 36 2))))]) dX3_busyBits_71 rfl rfl rfl rfl rfl ?_
            refine e_r_iinc (pc' := 75) (loc' := [some (.inr (.inr 36)), some (.inl p1), some (.inl p2), some (.inl (e_or v3 (e_shl 1 (e_w ((M 42 v4.toNat) - (M 36 2)))))), some (.inl (e_w (v4 + 1))), some (.inl (e_w ((M 42 v4.toNat) - (M 36 2))))]) dX3_busyBits_72 rfl rfl rfl rfl rfl ?_
            refine e_r_goto (pc' := 5) dX3_busyBits_75 rfl ?_
            exact e_forget (m := [true, true, true, true, true, false]) h rfl
theorem wp_X3_busyBits_trial_0 {X : e_X} {d gn : Nat} {o : e_O} (M : e_M) (p1 p2 : Int) (h : e_G X (d + 1) YX3_busyBits 5 [some (.inr (.inr 43)), some (.inl p1), some (.inl p2), some (.inl 0), some (.inl 0), none] [] (557, gn, e_RF, M) o) : e_G X (d + 1) YX3_busyBits 0 [some (.inr (.inr 43)), some (.inl p1), some (.inl p2), none, none, none] [] (557, gn, e_RF, M) o := by
  refine e_r_iconst (pc' := 1) dX3_busyBits_0 rfl (by decide) ?_
  refine e_r_istore_n (pc' := 2) (loc' := [some (.inr (.inr 43)), some (.inl p1), some (.inl p2), some (.inl 0), none, none]) dX3_busyBits_1 rfl rfl rfl rfl rfl ?_
  refine e_r_iconst (pc' := 3) dX3_busyBits_2 rfl (by decide) ?_
  refine e_r_istore (pc' := 5) (loc' := [some (.inr (.inr 43)), some (.inl p1), some (.inl p2), some (.inl 0), some (.inl 0), none]) dX3_busyBits_3 rfl rfl rfl rfl ?_
  exact h
theorem wp_X3_busyBits_trial_5 {X : e_X} {d gn : Nat} {o : e_O} (M : e_M) (p1 p2 v3 v4 : Int) (hmo : e_mn (557, gn, e_RF, M) o.2) (h : (((M 4 2) ≤ v4 → (o = (.inl (some (.inl v3)), (557, gn, e_RF, M)))) ∧ (¬ ((M 4 2) ≤ v4) → ((0 ≤ v4 ∧ v4 < 12) ∧ ((0 ≤ v4 ∧ v4 < 12) ∧ ((¬ (M 9 v4.toNat) = p1 → e_G X (d + 1) YX3_busyBits 5 [some (.inr (.inr 43)), some (.inl p1), some (.inl p2), some (.inl v3), some (.inl (e_w (v4 + 1))), none] [] (557, gn, e_RF, M) o) ∧ ((M 9 v4.toNat) = p1 → (∃ (r8 : Int) (N7 : e_M), e_E X d YX3_isDone [.inr (.inr 43), .inl v4] (557, gn, e_RF, M) (.inl (some (.inl r8)), (557, gn, e_RF, N7)) ∧ ((¬ r8 = 0 → e_G X (d + 1) YX3_busyBits 5 [some (.inr (.inr 43)), some (.inl p1), some (.inl p2), some (.inl v3), some (.inl (e_w (v4 + 1))), none] [] (557, gn, e_RF, N7) o) ∧ (r8 = 0 → (((e_w ((M 49 v4.toNat) - (M 43 2))) < 0 → e_G X (d + 1) YX3_busyBits 5 [some (.inr (.inr 43)), some (.inl p1), some (.inl p2), some (.inl v3), some (.inl (e_w (v4 + 1))), none] [] (557, gn, e_RF, N7) o) ∧ (¬ ((e_w ((M 49 v4.toNat) - (M 43 2))) < 0) → ((p2 ≤ (e_w ((M 49 v4.toNat) - (M 43 2))) → e_G X (d + 1) YX3_busyBits 5 [some (.inr (.inr 43)), some (.inl p1), some (.inl p2), some (.inl v3), some (.inl (e_w (v4 + 1))), none] [] (557, gn, e_RF, N7) o) ∧ (¬ (p2 ≤ (e_w ((M 49 v4.toNat) - (M 43 2)))) → e_G X (d + 1) YX3_busyBits 5 [some (.inr (.inr 43)), some (.inl p1), some (.inl p2), some (.inl (e_or v3 (e_shl 1 (e_w ((M 49 v4.toNat) - (M 43 2)))))), some (.inl (e_w (v4 + 1))), none] [] (557, gn, e_RF, N7) o)))))))))))))) : e_G X (d + 1) YX3_busyBits 5 [some (.inr (.inr 43)), some (.inl p1), some (.inl p2), some (.inl v3), some (.inl v4), none] [] (557, gn, e_RF, M) o := by
  refine e_r_iload (pc' := 7) dX3_busyBits_5 rfl rfl ?_
  refine e_r_aload_n (pc' := 8) (by decide) dX3_busyBits_7 rfl rfl rfl ?_
  refine e_r_getr (k := 0) (q := 4) (pc' := 11) cl_3 rfl (Nat.le_of_ble_eq_true rfl) rfl rfl fl_RX3_40 rfl (Nat.le_of_ble_eq_true rfl) dX3_busyBits_8 rfl ?_
  refine e_r_geti (k := 2) (pc' := 14) cl_8 rfl (Nat.le_of_ble_eq_true rfl) rfl rfl fl_RX3_94 dX3_busyBits_11 rfl ?_
  obtain ⟨ht1, hf2⟩ := h
  refine e_r_icmp_ge (tgt := 78) (pc' := 17) dX3_busyBits_14 rfl rfl (fun c => ?_) (fun c => ?_)
  · have h := ht1 c
    refine e_r_iload_n (pc' := 79) dX3_busyBits_78 rfl rfl rfl ?_
    exact e_r_iret (ty := .int) rfl (e_nI _) dX3_busyBits_79 h
  · have h := hf2 c
    refine e_r_aload_n (pc' := 18) (by decide) dX3_busyBits_17 rfl rfl rfl ?_
    refine e_r_getr (k := 10) (q := 49) (pc' := 21) cl_3 rfl (Nat.le_of_ble_eq_true rfl) rfl rfl fl_RX3_37 rfl (Nat.le_of_ble_eq_true rfl) dX3_busyBits_18 rfl ?_
    refine e_r_iload (pc' := 23) dX3_busyBits_21 rfl rfl ?_
    obtain ⟨hb3, h⟩ := h
    refine e_r_iald (j9 := v4.toNat) (pc' := 24) rfl (Nat.le_of_ble_eq_true rfl) hb3.1 hb3.2 rfl dX3_busyBits_23 rfl ?_
    refine e_r_aload_n (pc' := 25) (by decide) dX3_busyBits_24 rfl rfl rfl ?_
    refine e_r_geti (k := 2) (pc' := 28) cl_3 rfl (Nat.le_of_ble_eq_true rfl) rfl rfl fl_RX3_9 dX3_busyBits_25 rfl ?_
    refine e_r_isub (pc' := 29) dX3_busyBits_28 rfl ?_
    refine e_r_istore (pc' := 31) (loc' := [some (.inr (.inr 43)), some (.inl p1), some (.inl p2), some (.inl v3), some (.inl v4), some (.inl (e_w ((M 49 v4.toNat) - (M 43 2))))]) dX3_busyBits_29 rfl rfl rfl rfl ?_
    refine e_r_aload_n (pc' := 32) (by decide) dX3_busyBits_31 rfl rfl rfl ?_
    refine e_r_getr (k := 0) (q := 4) (pc' := 35) cl_3 rfl (Nat.le_of_ble_eq_true rfl) rfl rfl fl_RX3_40 rfl (Nat.le_of_ble_eq_true rfl) dX3_busyBits_32 rfl ?_
    refine e_r_getr (k := 7) (q := 9) (pc' := 38) cl_8 rfl (Nat.le_of_ble_eq_true rfl) rfl rfl fl_RX3_97 rfl (Nat.le_of_ble_eq_true rfl) dX3_busyBits_35 rfl ?_
    refine e_r_iload (pc' := 40) dX3_busyBits_38 rfl rfl ?_
    obtain ⟨hb4, h⟩ := h
    refine e_r_iald (j9 := v4.toNat) (pc' := 41) rfl (Nat.le_of_ble_eq_true rfl) hb4.1 hb4.2 rfl dX3_busyBits_40 rfl ?_
    refine e_r_iload_n (pc' := 42) dX3_busyBits_41 rfl rfl rfl ?_
    obtain ⟨ht5, hf6⟩ := h
    refine e_r_icmp_ne (tgt := 72) (pc' := 45) dX3_busyBits_42 rfl rfl (fun c => ?_) (fun c => ?_)
    · have h := ht5 c
      refine e_r_iinc (pc' := 75) (loc' := [some (.inr (.inr 43)), some (.inl p1), some (.inl p2), some (.inl v3), some (.inl (e_w (v4 + 1))), some (.inl (e_w ((M 49 v4.toNat) - (M 43 2))))]) dX3_busyBits_72 rfl rfl rfl rfl rfl ?_
      refine e_r_goto (pc' := 5) dX3_busyBits_75 rfl ?_
      exact e_forget (m := [true, true, true, true, true, false]) h rfl
    · have h := hf6 c
      refine e_r_aload_n (pc' := 46) (by decide) dX3_busyBits_45 rfl rfl rfl ?_
      refine e_r_iload (pc' := 48) dX3_busyBits_46 rfl rfl ?_
      obtain ⟨r8, N7, he9, h⟩ := h
      refine e_r_callV (a := 43) (av := [.inl v4]) (st := []) mqYX3_isDone ml_RX3_90 cl_3 rfl (Nat.le_of_ble_eq_true rfl) (by simp [e_cat]) rfl rfl rfl dX3_busyBits_48 (pc' := 51) rfl he9 ⟨Nat.le_refl _, Nat.le_refl _⟩ hmo ?_
      obtain ⟨ht10, hf11⟩ := h
      refine e_r_if_ne (tgt := 72) (pc' := 54) dX3_busyBits_51 rfl rfl (fun c => ?_) (fun c => ?_)
      · have h := ht10 c
        refine e_r_iinc (pc' := 75) (loc' := [some (.inr (.inr 43)), some (.inl p1), some (.inl p2), some (.inl v3), some (.inl (e_w (v4 + 1))), some (.inl (e_w ((M 49 v4.toNat) - (M 43 2))))]) dX3_busyBits_72 rfl rfl rfl rfl rfl ?_
        refine e_r_goto (pc' := 5) dX3_busyBits_75 rfl ?_
        exact e_forget (m := [true, true, true, true, true, false]) h rfl
      · have h := hf11 c
        refine e_r_iload (pc' := 56) dX3_busyBits_54 rfl rfl ?_
        obtain ⟨ht12, hf13⟩ := h
        refine e_r_if_lt (tgt := 72) (pc' := 59) dX3_busyBits_56 rfl rfl (fun c => ?_) (fun c => ?_)
        · have h := ht12 c
          refine e_r_iinc (pc' := 75) (loc' := [some (.inr (.inr 43)), some (.inl p1), some (.inl p2), some (.inl v3), some (.inl (e_w (v4 + 1))), some (.inl (e_w ((M 49 v4.toNat) - (M 43 2))))]) dX3_busyBits_72 rfl rfl rfl rfl rfl ?_
          refine e_r_goto (pc' := 5) dX3_busyBits_75 rfl ?_
          exact e_forget (m := [true, true, true, true, true, false]) h rfl
        · have h := hf13 c
          refine e_r_iload (pc' := 61) dX3_busyBits_59 rfl rfl ?_
          refine e_r_iload_n (pc' := 62) dX3_busyBits_61 rfl rfl rfl ?_
          obtain ⟨ht14, hf15⟩ := h
          refine e_r_icmp_ge (tgt := 72) (pc' := 65) dX3_busyBits_62 rfl rfl (fun c => ?_) (fun c => ?_)
          · have h := ht14 c
            refine e_r_iinc (pc' := 75) (loc' := [some (.inr (.inr 43)), some (.inl p1), some (.inl p2), some (.inl v3), some (.inl (e_w (v4 + 1))), some (.inl (e_w ((M 49 v4.toNat) - (M 43 2))))]) dX3_busyBits_72 rfl rfl rfl rfl rfl ?_
            refine e_r_goto (pc' := 5) dX3_busyBits_75 rfl ?_
            exact e_forget (m := [true, true, true, true, true, false]) h rfl
          · have h := hf15 c
            refine e_r_iload_n (pc' := 66) dX3_busyBits_65 rfl rfl rfl ?_
            refine e_r_iconst (pc' := 67) dX3_busyBits_66 rfl (by decide) ?_
            refine e_r_iload (pc' := 69) dX3_busyBits_67 rfl rfl ?_
            refine e_r_ishl (pc' := 70) dX3_busyBits_69 rfl ?_
            refine e_r_ior (pc' := 71) dX3_busyBits_70 rfl ?_
            refine e_r_istore_n (pc' := 72) (loc' := [some (.inr (.inr 43)), some (.inl p1), some (.inl p2), some (.inl (e_or v3 (e_shl 1 (e_w ((M 49 v4.toNat) - (M 43 2)))))), some (.inl v4), some (.inl (e_w ((M 49 v4.toNat) - (M 43 2))))]) dX3_busyBits_71 rfl rfl rfl rfl rfl ?_
            refine e_r_iinc (pc' := 75) (loc' := [some (.inr (.inr 43)), some (.inl p1), some (.inl p2), some (.inl (e_or v3 (e_shl 1 (e_w ((M 49 v4.toNat) - (M 43 2)))))), some (.inl (e_w (v4 + 1))), some (.inl (e_w ((M 49 v4.toNat) - (M 43 2))))]) dX3_busyBits_72 rfl rfl rfl rfl rfl ?_
            refine e_r_goto (pc' := 5) dX3_busyBits_75 rfl ?_
            exact e_forget (m := [true, true, true, true, true, false]) h rfl
theorem wp_X3_tasksNow_now_0 {X : e_X} {d gn : Nat} {o : e_O} (M : e_M) (p1 : Int) (h : e_G X (d + 1) YX3_tasksNow 4 [some (.inr (.inr 36)), some (.inl p1), some (.inl 0), some (.inl 0)] [] (557, gn, e_RF, M) o) : e_G X (d + 1) YX3_tasksNow 0 [some (.inr (.inr 36)), some (.inl p1), none, none] [] (557, gn, e_RF, M) o := by
  refine e_r_iconst (pc' := 1) dX3_tasksNow_0 rfl (by decide) ?_
  refine e_r_istore_n (pc' := 2) (loc' := [some (.inr (.inr 36)), some (.inl p1), some (.inl 0), none]) dX3_tasksNow_1 rfl rfl rfl rfl rfl ?_
  refine e_r_iconst (pc' := 3) dX3_tasksNow_2 rfl (by decide) ?_
  refine e_r_istore_n (pc' := 4) (loc' := [some (.inr (.inr 36)), some (.inl p1), some (.inl 0), some (.inl 0)]) dX3_tasksNow_3 rfl rfl rfl rfl rfl ?_
  exact h
theorem wp_X3_tasksNow_now_4 {X : e_X} {d gn : Nat} {o : e_O} (M : e_M) (p1 v2 v3 : Int) (hmo : e_mn (557, gn, e_RF, M) o.2) (h : (((M 4 2) ≤ v3 → (o = (.inl (some (.inl v2)), (557, gn, e_RF, M)))) ∧ (¬ ((M 4 2) ≤ v3) → ((0 ≤ v3 ∧ v3 < 12) ∧ ((¬ (M 9 v3.toNat) = p1 → e_G X (d + 1) YX3_tasksNow 4 [some (.inr (.inr 36)), some (.inl p1), some (.inl v2), some (.inl (e_w (v3 + 1)))] [] (557, gn, e_RF, M) o) ∧ ((M 9 v3.toNat) = p1 → (∃ (r7 : Int) (N6 : e_M), e_E X d YX3_fallsNow [.inr (.inr 36), .inl v3] (557, gn, e_RF, M) (.inl (some (.inl r7)), (557, gn, e_RF, N6)) ∧ ((r7 = 0 → e_G X (d + 1) YX3_tasksNow 4 [some (.inr (.inr 36)), some (.inl p1), some (.inl v2), some (.inl (e_w (v3 + 1)))] [] (557, gn, e_RF, N6) o) ∧ (¬ (r7 = 0) → e_G X (d + 1) YX3_tasksNow 4 [some (.inr (.inr 36)), some (.inl p1), some (.inl (e_w (v2 + 1))), some (.inl (e_w (v3 + 1)))] [] (557, gn, e_RF, N6) o))))))))) : e_G X (d + 1) YX3_tasksNow 4 [some (.inr (.inr 36)), some (.inl p1), some (.inl v2), some (.inl v3)] [] (557, gn, e_RF, M) o := by
  refine e_r_iload_n (pc' := 5) dX3_tasksNow_4 rfl rfl rfl ?_
  refine e_r_aload_n (pc' := 6) (by decide) dX3_tasksNow_5 rfl rfl rfl ?_
  refine e_r_getr (k := 0) (q := 4) (pc' := 9) cl_3 rfl (Nat.le_of_ble_eq_true rfl) rfl rfl fl_RX3_40 rfl (Nat.le_of_ble_eq_true rfl) dX3_tasksNow_6 rfl ?_
  refine e_r_geti (k := 2) (pc' := 12) cl_8 rfl (Nat.le_of_ble_eq_true rfl) rfl rfl fl_RX3_94 dX3_tasksNow_9 rfl ?_
  obtain ⟨ht1, hf2⟩ := h
  refine e_r_icmp_ge (tgt := 45) (pc' := 15) dX3_tasksNow_12 rfl rfl (fun c => ?_) (fun c => ?_)
  · have h := ht1 c
    refine e_r_iload_n (pc' := 46) dX3_tasksNow_45 rfl rfl rfl ?_
    exact e_r_iret (ty := .int) rfl (e_nI _) dX3_tasksNow_46 h
  · have h := hf2 c
    refine e_r_aload_n (pc' := 16) (by decide) dX3_tasksNow_15 rfl rfl rfl ?_
    refine e_r_getr (k := 0) (q := 4) (pc' := 19) cl_3 rfl (Nat.le_of_ble_eq_true rfl) rfl rfl fl_RX3_40 rfl (Nat.le_of_ble_eq_true rfl) dX3_tasksNow_16 rfl ?_
    refine e_r_getr (k := 7) (q := 9) (pc' := 22) cl_8 rfl (Nat.le_of_ble_eq_true rfl) rfl rfl fl_RX3_97 rfl (Nat.le_of_ble_eq_true rfl) dX3_tasksNow_19 rfl ?_
    refine e_r_iload_n (pc' := 23) dX3_tasksNow_22 rfl rfl rfl ?_
    obtain ⟨hb3, h⟩ := h
    refine e_r_iald (j9 := v3.toNat) (pc' := 24) rfl (Nat.le_of_ble_eq_true rfl) hb3.1 hb3.2 rfl dX3_tasksNow_23 rfl ?_
    refine e_r_iload_n (pc' := 25) dX3_tasksNow_24 rfl rfl rfl ?_
    obtain ⟨ht4, hf5⟩ := h
    refine e_r_icmp_ne (tgt := 39) (pc' := 28) dX3_tasksNow_25 rfl rfl (fun c => ?_) (fun c => ?_)
    · have h := ht4 c
      refine e_r_iinc (pc' := 42) (loc' := [some (.inr (.inr 36)), some (.inl p1), some (.inl v2), some (.inl (e_w (v3 + 1)))]) dX3_tasksNow_39 rfl rfl rfl rfl rfl ?_
      refine e_r_goto (pc' := 4) dX3_tasksNow_42 rfl ?_
      exact h
    · have h := hf5 c
      refine e_r_aload_n (pc' := 29) (by decide) dX3_tasksNow_28 rfl rfl rfl ?_
      refine e_r_iload_n (pc' := 30) dX3_tasksNow_29 rfl rfl rfl ?_
      obtain ⟨r7, N6, he8, h⟩ := h
      refine e_r_callV (a := 36) (av := [.inl v3]) (st := []) mqYX3_fallsNow ml_RX3_100 cl_3 rfl (Nat.le_of_ble_eq_true rfl) (by simp [e_cat]) rfl rfl rfl dX3_tasksNow_30 (pc' := 33) rfl he8 ⟨Nat.le_refl _, Nat.le_refl _⟩ hmo ?_
      obtain ⟨ht9, hf10⟩ := h
      refine e_r_if_eq (tgt := 39) (pc' := 36) dX3_tasksNow_33 rfl rfl (fun c => ?_) (fun c => ?_)
      · have h := ht9 c
        refine e_r_iinc (pc' := 42) (loc' := [some (.inr (.inr 36)), some (.inl p1), some (.inl v2), some (.inl (e_w (v3 + 1)))]) dX3_tasksNow_39 rfl rfl rfl rfl rfl ?_
        refine e_r_goto (pc' := 4) dX3_tasksNow_42 rfl ?_
        exact h
      · have h := hf10 c
        refine e_r_iinc (pc' := 39) (loc' := [some (.inr (.inr 36)), some (.inl p1), some (.inl (e_w (v2 + 1))), some (.inl v3)]) dX3_tasksNow_36 rfl rfl rfl rfl rfl ?_
        refine e_r_iinc (pc' := 42) (loc' := [some (.inr (.inr 36)), some (.inl p1), some (.inl (e_w (v2 + 1))), some (.inl (e_w (v3 + 1)))]) dX3_tasksNow_39 rfl rfl rfl rfl rfl ?_
        refine e_r_goto (pc' := 4) dX3_tasksNow_42 rfl ?_
        exact h
theorem wp_X3_tasksNow_trial_0 {X : e_X} {d gn : Nat} {o : e_O} (M : e_M) (p1 : Int) (h : e_G X (d + 1) YX3_tasksNow 4 [some (.inr (.inr 43)), some (.inl p1), some (.inl 0), some (.inl 0)] [] (557, gn, e_RF, M) o) : e_G X (d + 1) YX3_tasksNow 0 [some (.inr (.inr 43)), some (.inl p1), none, none] [] (557, gn, e_RF, M) o := by
  refine e_r_iconst (pc' := 1) dX3_tasksNow_0 rfl (by decide) ?_
  refine e_r_istore_n (pc' := 2) (loc' := [some (.inr (.inr 43)), some (.inl p1), some (.inl 0), none]) dX3_tasksNow_1 rfl rfl rfl rfl rfl ?_
  refine e_r_iconst (pc' := 3) dX3_tasksNow_2 rfl (by decide) ?_
  refine e_r_istore_n (pc' := 4) (loc' := [some (.inr (.inr 43)), some (.inl p1), some (.inl 0), some (.inl 0)]) dX3_tasksNow_3 rfl rfl rfl rfl rfl ?_
  exact h
theorem wp_X3_tasksNow_trial_4 {X : e_X} {d gn : Nat} {o : e_O} (M : e_M) (p1 v2 v3 : Int) (hmo : e_mn (557, gn, e_RF, M) o.2) (h : (((M 4 2) ≤ v3 → (o = (.inl (some (.inl v2)), (557, gn, e_RF, M)))) ∧ (¬ ((M 4 2) ≤ v3) → ((0 ≤ v3 ∧ v3 < 12) ∧ ((¬ (M 9 v3.toNat) = p1 → e_G X (d + 1) YX3_tasksNow 4 [some (.inr (.inr 43)), some (.inl p1), some (.inl v2), some (.inl (e_w (v3 + 1)))] [] (557, gn, e_RF, M) o) ∧ ((M 9 v3.toNat) = p1 → (∃ (r7 : Int) (N6 : e_M), e_E X d YX3_fallsNow [.inr (.inr 43), .inl v3] (557, gn, e_RF, M) (.inl (some (.inl r7)), (557, gn, e_RF, N6)) ∧ ((r7 = 0 → e_G X (d + 1) YX3_tasksNow 4 [some (.inr (.inr 43)), some (.inl p1), some (.inl v2), some (.inl (e_w (v3 + 1)))] [] (557, gn, e_RF, N6) o) ∧ (¬ (r7 = 0) → e_G X (d + 1) YX3_tasksNow 4 [some (.inr (.inr 43)), some (.inl p1), some (.inl (e_w (v2 + 1))), some (.inl (e_w (v3 + 1)))] [] (557, gn, e_RF, N6) o))))))))) : e_G X (d + 1) YX3_tasksNow 4 [some (.inr (.inr 43)), some (.inl p1), some (.inl v2), some (.inl v3)] [] (557, gn, e_RF, M) o := by
  refine e_r_iload_n (pc' := 5) dX3_tasksNow_4 rfl rfl rfl ?_
  refine e_r_aload_n (pc' := 6) (by decide) dX3_tasksNow_5 rfl rfl rfl ?_
  refine e_r_getr (k := 0) (q := 4) (pc' := 9) cl_3 rfl (Nat.le_of_ble_eq_true rfl) rfl rfl fl_RX3_40 rfl (Nat.le_of_ble_eq_true rfl) dX3_tasksNow_6 rfl ?_
  refine e_r_geti (k := 2) (pc' := 12) cl_8 rfl (Nat.le_of_ble_eq_true rfl) rfl rfl fl_RX3_94 dX3_tasksNow_9 rfl ?_
  obtain ⟨ht1, hf2⟩ := h
  refine e_r_icmp_ge (tgt := 45) (pc' := 15) dX3_tasksNow_12 rfl rfl (fun c => ?_) (fun c => ?_)
  · have h := ht1 c
    refine e_r_iload_n (pc' := 46) dX3_tasksNow_45 rfl rfl rfl ?_
    exact e_r_iret (ty := .int) rfl (e_nI _) dX3_tasksNow_46 h
  · have h := hf2 c
    refine e_r_aload_n (pc' := 16) (by decide) dX3_tasksNow_15 rfl rfl rfl ?_
    refine e_r_getr (k := 0) (q := 4) (pc' := 19) cl_3 rfl (Nat.le_of_ble_eq_true rfl) rfl rfl fl_RX3_40 rfl (Nat.le_of_ble_eq_true rfl) dX3_tasksNow_16 rfl ?_
    refine e_r_getr (k := 7) (q := 9) (pc' := 22) cl_8 rfl (Nat.le_of_ble_eq_true rfl) rfl rfl fl_RX3_97 rfl (Nat.le_of_ble_eq_true rfl) dX3_tasksNow_19 rfl ?_
    refine e_r_iload_n (pc' := 23) dX3_tasksNow_22 rfl rfl rfl ?_
    obtain ⟨hb3, h⟩ := h
    refine e_r_iald (j9 := v3.toNat) (pc' := 24) rfl (Nat.le_of_ble_eq_true rfl) hb3.1 hb3.2 rfl dX3_tasksNow_23 rfl ?_
    refine e_r_iload_n (pc' := 25) dX3_tasksNow_24 rfl rfl rfl ?_
    obtain ⟨ht4, hf5⟩ := h
    refine e_r_icmp_ne (tgt := 39) (pc' := 28) dX3_tasksNow_25 rfl rfl (fun c => ?_) (fun c => ?_)
    · have h := ht4 c
      refine e_r_iinc (pc' := 42) (loc' := [some (.inr (.inr 43)), some (.inl p1), some (.inl v2), some (.inl (e_w (v3 + 1)))]) dX3_tasksNow_39 rfl rfl rfl rfl rfl ?_
      refine e_r_goto (pc' := 4) dX3_tasksNow_42 rfl ?_
      exact h
    · have h := hf5 c
      refine e_r_aload_n (pc' := 29) (by decide) dX3_tasksNow_28 rfl rfl rfl ?_
      refine e_r_iload_n (pc' := 30) dX3_tasksNow_29 rfl rfl rfl ?_
      obtain ⟨r7, N6, he8, h⟩ := h
      refine e_r_callV (a := 43) (av := [.inl v3]) (st := []) mqYX3_fallsNow ml_RX3_100 cl_3 rfl (Nat.le_of_ble_eq_true rfl) (by simp [e_cat]) rfl rfl rfl dX3_tasksNow_30 (pc' := 33) rfl he8 ⟨Nat.le_refl _, Nat.le_refl _⟩ hmo ?_
      obtain ⟨ht9, hf10⟩ := h
      refine e_r_if_eq (tgt := 39) (pc' := 36) dX3_tasksNow_33 rfl rfl (fun c => ?_) (fun c => ?_)
      · have h := ht9 c
        refine e_r_iinc (pc' := 42) (loc' := [some (.inr (.inr 43)), some (.inl p1), some (.inl v2), some (.inl (e_w (v3 + 1)))]) dX3_tasksNow_39 rfl rfl rfl rfl rfl ?_
        refine e_r_goto (pc' := 4) dX3_tasksNow_42 rfl ?_
        exact h
      · have h := hf10 c
        refine e_r_iinc (pc' := 39) (loc' := [some (.inr (.inr 43)), some (.inl p1), some (.inl (e_w (v2 + 1))), some (.inl v3)]) dX3_tasksNow_36 rfl rfl rfl rfl rfl ?_
        refine e_r_iinc (pc' := 42) (loc' := [some (.inr (.inr 43)), some (.inl p1), some (.inl (e_w (v2 + 1))), some (.inl (e_w (v3 + 1)))]) dX3_tasksNow_39 rfl rfl rfl rfl rfl ?_
        refine e_r_goto (pc' := 4) dX3_tasksNow_42 rfl ?_
        exact h
theorem wp_X3_priceFor_now_0 {X : e_X} {d gn : Nat} {o : e_O} (M : e_M) (p1 : Int) (hmo : e_mn (557, gn, e_RF, M) o.2) (h : (∃ (r2 : Int) (N1 : e_M), e_E X d YX3_boughtBits [.inr (.inr 36)] (557, gn, e_RF, M) (.inl (some (.inl r2)), (557, gn, e_RF, N1)) ∧ (∃ (r5 : Int) (N4 : e_M), e_E X d YX10_bitsBelow [.inl (N1 4 0)] (557, gn, e_RF, N1) (.inl (some (.inl r5)), (557, gn, e_RF, N4)) ∧ (∃ (r8 : Int) (N7 : e_M), e_E X d YJ6_bitCount_0f7a4 [.inl (e_and r2 (e_xor (e_shl 1 p1) (-1)))] (557, gn, e_RF, (e_up N4 23 0 (N4 36 2))) (.inl (some (.inl r8)), (557, gn, e_RF, N7)) ∧ ((0 ≤ p1 ∧ p1 < 6) ∧ ((0 ≤ p1 ∧ p1 < 6) ∧ ((0 ≤ p1 ∧ p1 < 6) ∧ ((0 ≤ p1 ∧ p1 < 6) ∧ (∃ (r15 : Int) (N14 : e_M), e_E X d YX8_skillsOf [.inr (.inr 4), .inl (e_and (e_and r5 (e_xor (e_shl 1 p1) (-1))) (e_xor (e_and r2 (e_xor (e_shl 1 p1) (-1))) (-1)))] (557, gn, e_RF, (e_up (e_up (e_up (e_up N7 23 1 r8) 23 2 ((e_up N7 23 1 r8) 39 p1.toNat)) 23 3 ((e_up (e_up N7 23 1 r8) 23 2 ((e_up N7 23 1 r8) 39 p1.toNat)) 37 p1.toNat)) 23 4 ((e_up (e_up (e_up N7 23 1 r8) 23 2 ((e_up N7 23 1 r8) 39 p1.toNat)) 23 3 ((e_up (e_up N7 23 1 r8) 23 2 ((e_up N7 23 1 r8) 39 p1.toNat)) 37 p1.toNat)) 6 p1.toNat))) (.inl (some (.inl r15)), (557, gn, e_RF, N14)) ∧ (∃ (r18 : Int) (N17 : e_M), e_E X d YJ6_bitCount_0f7a4 [.inl (e_and ((e_up (e_up (e_up (e_up N7 23 1 r8) 23 2 ((e_up N7 23 1 r8) 39 p1.toNat)) 23 3 ((e_up (e_up N7 23 1 r8) 23 2 ((e_up N7 23 1 r8) 39 p1.toNat)) 37 p1.toNat)) 23 4 ((e_up (e_up (e_up N7 23 1 r8) 23 2 ((e_up N7 23 1 r8) 39 p1.toNat)) 23 3 ((e_up (e_up N7 23 1 r8) 23 2 ((e_up N7 23 1 r8) 39 p1.toNat)) 37 p1.toNat)) 6 p1.toNat)) 7 p1.toNat) (e_xor r15 (-1)))] (557, gn, e_RF, N14) (.inl (some (.inl r18)), (557, gn, e_RF, N17)) ∧ (∃ (r21 : Int) (N20 : e_M), e_E X d YX3_tasksNow [.inr (.inr 36), .inl p1] (557, gn, e_RF, (e_up N17 23 5 r18)) (.inl (some (.inl r21)), (557, gn, e_RF, N20)) ∧ (∃ (r24 : Int) (N23 : e_M), e_E X d YX2_priceOfSeen [.inr (.inr 20)] (557, gn, e_RF, (e_up (e_up N20 23 6 r21) 23 7 p1)) (.inl (some (.inl r24)), (557, gn, e_RF, N23)) ∧ (o = (.inl (some (.inl r24)), (557, gn, e_RF, N23))))))))))))))) : e_G X (d + 1) YX3_priceFor 0 [some (.inr (.inr 36)), some (.inl p1), none, none, none] [] (557, gn, e_RF, M) o := by
  refine e_r_aload_n (pc' := 1) (by decide) dX3_priceFor_0 rfl rfl rfl ?_
  obtain ⟨r2, N1, he3, h⟩ := h
  refine e_r_callV (a := 36) (av := []) (st := []) mqYX3_boughtBits ml_RX3_65 cl_3 rfl (Nat.le_of_ble_eq_true rfl) (by simp [e_cat]) rfl rfl rfl dX3_priceFor_1 (pc' := 4) rfl he3 ⟨Nat.le_refl _, Nat.le_refl _⟩ hmo ?_
  refine e_r_iconst (pc' := 5) dX3_priceFor_4 rfl (by decide) ?_
  refine e_r_iload_n (pc' := 6) dX3_priceFor_5 rfl rfl rfl ?_
  refine e_r_ishl (pc' := 7) dX3_priceFor_6 rfl ?_
  refine e_r_iconst (pc' := 8) dX3_priceFor_7 rfl (by decide) ?_
  refine e_r_ixor (pc' := 9) dX3_priceFor_8 rfl ?_
  refine e_r_iand (pc' := 10) dX3_priceFor_9 rfl ?_
  refine e_r_istore_n (pc' := 11) (loc' := [some (.inr (.inr 36)), some (.inl p1), some (.inl (e_and r2 (e_xor (e_shl 1 p1) (-1)))), none, none]) dX3_priceFor_10 rfl rfl rfl rfl rfl ?_
  refine e_r_aload_n (pc' := 12) (by decide) dX3_priceFor_11 rfl rfl rfl ?_
  refine e_r_getr (k := 0) (q := 4) (pc' := 15) cl_3 rfl (Nat.le_of_ble_eq_true rfl) rfl rfl fl_RX3_40 rfl (Nat.le_of_ble_eq_true rfl) dX3_priceFor_12 rfl ?_
  refine e_r_geti (k := 0) (pc' := 18) cl_8 rfl (Nat.le_of_ble_eq_true rfl) rfl rfl fl_RX3_58 dX3_priceFor_15 rfl ?_
  obtain ⟨r5, N4, he6, h⟩ := h
  refine e_r_callSN (av := [.inl (N1 4 0)]) (st := []) mqYX10_bitsBelow nl_RX3_61 (by simp [e_cat]) rfl rfl rfl dX3_priceFor_18 (pc' := 21) rfl he6 ⟨Nat.le_refl _, Nat.le_refl _⟩ hmo ?_
  refine e_r_iconst (pc' := 22) dX3_priceFor_21 rfl (by decide) ?_
  refine e_r_iload_n (pc' := 23) dX3_priceFor_22 rfl rfl rfl ?_
  refine e_r_ishl (pc' := 24) dX3_priceFor_23 rfl ?_
  refine e_r_iconst (pc' := 25) dX3_priceFor_24 rfl (by decide) ?_
  refine e_r_ixor (pc' := 26) dX3_priceFor_25 rfl ?_
  refine e_r_iand (pc' := 27) dX3_priceFor_26 rfl ?_
  refine e_r_iload_n (pc' := 28) dX3_priceFor_27 rfl rfl rfl ?_
  refine e_r_iconst (pc' := 29) dX3_priceFor_28 rfl (by decide) ?_
  refine e_r_ixor (pc' := 30) dX3_priceFor_29 rfl ?_
  refine e_r_iand (pc' := 31) dX3_priceFor_30 rfl ?_
  refine e_r_istore_n (pc' := 32) (loc' := [some (.inr (.inr 36)), some (.inl p1), some (.inl (e_and r2 (e_xor (e_shl 1 p1) (-1)))), some (.inl (e_and (e_and r5 (e_xor (e_shl 1 p1) (-1))) (e_xor (e_and r2 (e_xor (e_shl 1 p1) (-1))) (-1)))), none]) dX3_priceFor_31 rfl rfl rfl rfl rfl ?_
  refine e_r_aload_n (pc' := 33) (by decide) dX3_priceFor_32 rfl rfl rfl ?_
  refine e_r_getr (k := 1) (q := 20) (pc' := 36) cl_3 rfl (Nat.le_of_ble_eq_true rfl) rfl rfl fl_RX3_44 rfl (Nat.le_of_ble_eq_true rfl) dX3_priceFor_33 rfl ?_
  refine e_r_getr (k := 3) (q := 23) (pc' := 39) cl_2 rfl (Nat.le_of_ble_eq_true rfl) rfl rfl fl_RX3_103 rfl (Nat.le_of_ble_eq_true rfl) dX3_priceFor_36 rfl ?_
  refine e_r_astore (pc' := 41) (loc' := [some (.inr (.inr 36)), some (.inl p1), some (.inl (e_and r2 (e_xor (e_shl 1 p1) (-1)))), some (.inl (e_and (e_and r5 (e_xor (e_shl 1 p1) (-1))) (e_xor (e_and r2 (e_xor (e_shl 1 p1) (-1))) (-1)))), some (.inr (.inr 23))]) (by decide) dX3_priceFor_39 rfl rfl rfl rfl ?_
  refine e_r_aload (pc' := 43) (by decide) dX3_priceFor_41 rfl rfl ?_
  refine e_r_iconst (pc' := 44) dX3_priceFor_43 rfl (by decide) ?_
  refine e_r_aload_n (pc' := 45) (by decide) dX3_priceFor_44 rfl rfl rfl ?_
  refine e_r_geti (k := 2) (pc' := 48) cl_3 rfl (Nat.le_of_ble_eq_true rfl) rfl rfl fl_RX3_9 dX3_priceFor_45 rfl ?_
  refine e_r_iast (j9 := 0) (pc' := 49) rfl (Nat.le_of_ble_eq_true rfl) (by decide) (by decide) rfl dX3_priceFor_48 rfl ?_
  refine e_r_aload (pc' := 51) (by decide) dX3_priceFor_49 rfl rfl ?_
  refine e_r_iconst (pc' := 52) dX3_priceFor_51 rfl (by decide) ?_
  refine e_r_iload_n (pc' := 53) dX3_priceFor_52 rfl rfl rfl ?_
  obtain ⟨r8, N7, he9, h⟩ := h
  refine e_r_callS (av := [.inl (e_and r2 (e_xor (e_shl 1 p1) (-1)))]) (st := [.inl 1, .inr (.inr 23)]) mqYJ6_bitCount_0f7a4 ml_RX3_108 (by simp [e_cat]) rfl rfl rfl dX3_priceFor_53 (pc' := 56) rfl he9 ⟨Nat.le_refl _, Nat.le_refl _⟩ hmo ?_
  refine e_r_iast (j9 := 1) (pc' := 57) rfl (Nat.le_of_ble_eq_true rfl) (by decide) (by decide) rfl dX3_priceFor_56 rfl ?_
  refine e_r_aload (pc' := 59) (by decide) dX3_priceFor_57 rfl rfl ?_
  refine e_r_iconst (pc' := 60) dX3_priceFor_59 rfl (by decide) ?_
  refine e_r_aload_n (pc' := 61) (by decide) dX3_priceFor_60 rfl rfl rfl ?_
  refine e_r_getr (k := 7) (q := 39) (pc' := 64) cl_3 rfl (Nat.le_of_ble_eq_true rfl) rfl rfl fl_RX3_28 rfl (Nat.le_of_ble_eq_true rfl) dX3_priceFor_61 rfl ?_
  refine e_r_iload_n (pc' := 65) dX3_priceFor_64 rfl rfl rfl ?_
  obtain ⟨hb10, h⟩ := h
  refine e_r_iald (j9 := p1.toNat) (pc' := 66) rfl (Nat.le_of_ble_eq_true rfl) hb10.1 hb10.2 rfl dX3_priceFor_65 rfl ?_
  refine e_r_iast (j9 := 2) (pc' := 67) rfl (Nat.le_of_ble_eq_true rfl) (by decide) (by decide) rfl dX3_priceFor_66 rfl ?_
  refine e_r_aload (pc' := 69) (by decide) dX3_priceFor_67 rfl rfl ?_
  refine e_r_iconst (pc' := 70) dX3_priceFor_69 rfl (by decide) ?_
  refine e_r_aload_n (pc' := 71) (by decide) dX3_priceFor_70 rfl rfl rfl ?_
  refine e_r_getr (k := 5) (q := 37) (pc' := 74) cl_3 rfl (Nat.le_of_ble_eq_true rfl) rfl rfl fl_RX3_21 rfl (Nat.le_of_ble_eq_true rfl) dX3_priceFor_71 rfl ?_
  refine e_r_iload_n (pc' := 75) dX3_priceFor_74 rfl rfl rfl ?_
  obtain ⟨hb11, h⟩ := h
  refine e_r_iald (j9 := p1.toNat) (pc' := 76) rfl (Nat.le_of_ble_eq_true rfl) hb11.1 hb11.2 rfl dX3_priceFor_75 rfl ?_
  refine e_r_iast (j9 := 3) (pc' := 77) rfl (Nat.le_of_ble_eq_true rfl) (by decide) (by decide) rfl dX3_priceFor_76 rfl ?_
  refine e_r_aload (pc' := 79) (by decide) dX3_priceFor_77 rfl rfl ?_
  refine e_r_iconst (pc' := 80) dX3_priceFor_79 rfl (by decide) ?_
  refine e_r_aload_n (pc' := 81) (by decide) dX3_priceFor_80 rfl rfl rfl ?_
  refine e_r_getr (k := 0) (q := 4) (pc' := 84) cl_3 rfl (Nat.le_of_ble_eq_true rfl) rfl rfl fl_RX3_40 rfl (Nat.le_of_ble_eq_true rfl) dX3_priceFor_81 rfl ?_
  refine e_r_getr (k := 4) (q := 6) (pc' := 87) cl_8 rfl (Nat.le_of_ble_eq_true rfl) rfl rfl fl_RX3_113 rfl (Nat.le_of_ble_eq_true rfl) dX3_priceFor_84 rfl ?_
  refine e_r_iload_n (pc' := 88) dX3_priceFor_87 rfl rfl rfl ?_
  obtain ⟨hb12, h⟩ := h
  refine e_r_iald (j9 := p1.toNat) (pc' := 89) rfl (Nat.le_of_ble_eq_true rfl) hb12.1 hb12.2 rfl dX3_priceFor_88 rfl ?_
  refine e_r_iast (j9 := 4) (pc' := 90) rfl (Nat.le_of_ble_eq_true rfl) (by decide) (by decide) rfl dX3_priceFor_89 rfl ?_
  refine e_r_aload (pc' := 92) (by decide) dX3_priceFor_90 rfl rfl ?_
  refine e_r_iconst (pc' := 93) dX3_priceFor_92 rfl (by decide) ?_
  refine e_r_aload_n (pc' := 94) (by decide) dX3_priceFor_93 rfl rfl rfl ?_
  refine e_r_getr (k := 0) (q := 4) (pc' := 97) cl_3 rfl (Nat.le_of_ble_eq_true rfl) rfl rfl fl_RX3_40 rfl (Nat.le_of_ble_eq_true rfl) dX3_priceFor_94 rfl ?_
  refine e_r_getr (k := 5) (q := 7) (pc' := 100) cl_8 rfl (Nat.le_of_ble_eq_true rfl) rfl rfl fl_RX3_116 rfl (Nat.le_of_ble_eq_true rfl) dX3_priceFor_97 rfl ?_
  refine e_r_iload_n (pc' := 101) dX3_priceFor_100 rfl rfl rfl ?_
  obtain ⟨hb13, h⟩ := h
  refine e_r_iald (j9 := p1.toNat) (pc' := 102) rfl (Nat.le_of_ble_eq_true rfl) hb13.1 hb13.2 rfl dX3_priceFor_101 rfl ?_
  refine e_r_aload_n (pc' := 103) (by decide) dX3_priceFor_102 rfl rfl rfl ?_
  refine e_r_getr (k := 0) (q := 4) (pc' := 106) cl_3 rfl (Nat.le_of_ble_eq_true rfl) rfl rfl fl_RX3_40 rfl (Nat.le_of_ble_eq_true rfl) dX3_priceFor_103 rfl ?_
  refine e_r_iload_n (pc' := 107) dX3_priceFor_106 rfl rfl rfl ?_
  obtain ⟨r15, N14, he16, h⟩ := h
  refine e_r_callV (a := 4) (av := [.inl (e_and (e_and r5 (e_xor (e_shl 1 p1) (-1))) (e_xor (e_and r2 (e_xor (e_shl 1 p1) (-1))) (-1)))]) (st := [.inl ((e_up (e_up (e_up (e_up N7 23 1 r8) 23 2 ((e_up N7 23 1 r8) 39 p1.toNat)) 23 3 ((e_up (e_up N7 23 1 r8) 23 2 ((e_up N7 23 1 r8) 39 p1.toNat)) 37 p1.toNat)) 23 4 ((e_up (e_up (e_up N7 23 1 r8) 23 2 ((e_up N7 23 1 r8) 39 p1.toNat)) 23 3 ((e_up (e_up N7 23 1 r8) 23 2 ((e_up N7 23 1 r8) 39 p1.toNat)) 37 p1.toNat)) 6 p1.toNat)) 7 p1.toNat), .inl 5, .inr (.inr 23)]) mqYX8_skillsOf ml_RX3_72 cl_8 rfl (Nat.le_of_ble_eq_true rfl) (by simp [e_cat]) rfl rfl rfl dX3_priceFor_107 (pc' := 110) rfl he16 ⟨Nat.le_refl _, Nat.le_refl _⟩ hmo ?_
  refine e_r_iconst (pc' := 111) dX3_priceFor_110 rfl (by decide) ?_
  refine e_r_ixor (pc' := 112) dX3_priceFor_111 rfl ?_
  refine e_r_iand (pc' := 113) dX3_priceFor_112 rfl ?_
  obtain ⟨r18, N17, he19, h⟩ := h
  refine e_r_callS (av := [.inl (e_and ((e_up (e_up (e_up (e_up N7 23 1 r8) 23 2 ((e_up N7 23 1 r8) 39 p1.toNat)) 23 3 ((e_up (e_up N7 23 1 r8) 23 2 ((e_up N7 23 1 r8) 39 p1.toNat)) 37 p1.toNat)) 23 4 ((e_up (e_up (e_up N7 23 1 r8) 23 2 ((e_up N7 23 1 r8) 39 p1.toNat)) 23 3 ((e_up (e_up N7 23 1 r8) 23 2 ((e_up N7 23 1 r8) 39 p1.toNat)) 37 p1.toNat)) 6 p1.toNat)) 7 p1.toNat) (e_xor r15 (-1)))]) (st := [.inl 5, .inr (.inr 23)]) mqYJ6_bitCount_0f7a4 ml_RX3_108 (by simp [e_cat]) rfl rfl rfl dX3_priceFor_113 (pc' := 116) rfl he19 ⟨Nat.le_refl _, Nat.le_refl _⟩ hmo ?_
  refine e_r_iast (j9 := 5) (pc' := 117) rfl (Nat.le_of_ble_eq_true rfl) (by decide) (by decide) rfl dX3_priceFor_116 rfl ?_
  refine e_r_aload (pc' := 119) (by decide) dX3_priceFor_117 rfl rfl ?_
  refine e_r_bipush (pc' := 121) dX3_priceFor_119 rfl (by decide) ?_
  refine e_r_aload_n (pc' := 122) (by decide) dX3_priceFor_121 rfl rfl rfl ?_
  refine e_r_iload_n (pc' := 123) dX3_priceFor_122 rfl rfl rfl ?_
  obtain ⟨r21, N20, he22, h⟩ := h
  refine e_r_callV (a := 36) (av := [.inl p1]) (st := [.inl 6, .inr (.inr 23)]) mqYX3_tasksNow ml_RX3_119 cl_3 rfl (Nat.le_of_ble_eq_true rfl) (by simp [e_cat]) rfl rfl rfl dX3_priceFor_123 (pc' := 126) rfl he22 ⟨Nat.le_refl _, Nat.le_refl _⟩ hmo ?_
  refine e_r_iast (j9 := 6) (pc' := 127) rfl (Nat.le_of_ble_eq_true rfl) (by decide) (by decide) rfl dX3_priceFor_126 rfl ?_
  refine e_r_aload (pc' := 129) (by decide) dX3_priceFor_127 rfl rfl ?_
  refine e_r_bipush (pc' := 131) dX3_priceFor_129 rfl (by decide) ?_
  refine e_r_iload_n (pc' := 132) dX3_priceFor_131 rfl rfl rfl ?_
  refine e_r_iast (j9 := 7) (pc' := 133) rfl (Nat.le_of_ble_eq_true rfl) (by decide) (by decide) rfl dX3_priceFor_132 rfl ?_
  refine e_r_aload_n (pc' := 134) (by decide) dX3_priceFor_133 rfl rfl rfl ?_
  refine e_r_getr (k := 1) (q := 20) (pc' := 137) cl_3 rfl (Nat.le_of_ble_eq_true rfl) rfl rfl fl_RX3_44 rfl (Nat.le_of_ble_eq_true rfl) dX3_priceFor_134 rfl ?_
  obtain ⟨r24, N23, he25, h⟩ := h
  refine e_r_callV (a := 20) (av := []) (st := []) mqYX2_priceOfSeen ml_RX3_122 cl_2 rfl (Nat.le_of_ble_eq_true rfl) (by simp [e_cat]) rfl rfl rfl dX3_priceFor_137 (pc' := 140) rfl he25 ⟨Nat.le_refl _, Nat.le_refl _⟩ hmo ?_
  exact e_r_iret (ty := .int) rfl (e_nI _) dX3_priceFor_140 h
theorem wp_X3_priceFor_trial_0 {X : e_X} {d gn : Nat} {o : e_O} (M : e_M) (p1 : Int) (hmo : e_mn (557, gn, e_RF, M) o.2) (h : (∃ (r2 : Int) (N1 : e_M), e_E X d YX3_boughtBits [.inr (.inr 43)] (557, gn, e_RF, M) (.inl (some (.inl r2)), (557, gn, e_RF, N1)) ∧ (∃ (r5 : Int) (N4 : e_M), e_E X d YX10_bitsBelow [.inl (N1 4 0)] (557, gn, e_RF, N1) (.inl (some (.inl r5)), (557, gn, e_RF, N4)) ∧ (∃ (r8 : Int) (N7 : e_M), e_E X d YJ6_bitCount_0f7a4 [.inl (e_and r2 (e_xor (e_shl 1 p1) (-1)))] (557, gn, e_RF, (e_up N4 23 0 (N4 43 2))) (.inl (some (.inl r8)), (557, gn, e_RF, N7)) ∧ ((0 ≤ p1 ∧ p1 < 6) ∧ ((0 ≤ p1 ∧ p1 < 6) ∧ ((0 ≤ p1 ∧ p1 < 6) ∧ ((0 ≤ p1 ∧ p1 < 6) ∧ (∃ (r15 : Int) (N14 : e_M), e_E X d YX8_skillsOf [.inr (.inr 4), .inl (e_and (e_and r5 (e_xor (e_shl 1 p1) (-1))) (e_xor (e_and r2 (e_xor (e_shl 1 p1) (-1))) (-1)))] (557, gn, e_RF, (e_up (e_up (e_up (e_up N7 23 1 r8) 23 2 ((e_up N7 23 1 r8) 46 p1.toNat)) 23 3 ((e_up (e_up N7 23 1 r8) 23 2 ((e_up N7 23 1 r8) 46 p1.toNat)) 44 p1.toNat)) 23 4 ((e_up (e_up (e_up N7 23 1 r8) 23 2 ((e_up N7 23 1 r8) 46 p1.toNat)) 23 3 ((e_up (e_up N7 23 1 r8) 23 2 ((e_up N7 23 1 r8) 46 p1.toNat)) 44 p1.toNat)) 6 p1.toNat))) (.inl (some (.inl r15)), (557, gn, e_RF, N14)) ∧ (∃ (r18 : Int) (N17 : e_M), e_E X d YJ6_bitCount_0f7a4 [.inl (e_and ((e_up (e_up (e_up (e_up N7 23 1 r8) 23 2 ((e_up N7 23 1 r8) 46 p1.toNat)) 23 3 ((e_up (e_up N7 23 1 r8) 23 2 ((e_up N7 23 1 r8) 46 p1.toNat)) 44 p1.toNat)) 23 4 ((e_up (e_up (e_up N7 23 1 r8) 23 2 ((e_up N7 23 1 r8) 46 p1.toNat)) 23 3 ((e_up (e_up N7 23 1 r8) 23 2 ((e_up N7 23 1 r8) 46 p1.toNat)) 44 p1.toNat)) 6 p1.toNat)) 7 p1.toNat) (e_xor r15 (-1)))] (557, gn, e_RF, N14) (.inl (some (.inl r18)), (557, gn, e_RF, N17)) ∧ (∃ (r21 : Int) (N20 : e_M), e_E X d YX3_tasksNow [.inr (.inr 43), .inl p1] (557, gn, e_RF, (e_up N17 23 5 r18)) (.inl (some (.inl r21)), (557, gn, e_RF, N20)) ∧ (∃ (r24 : Int) (N23 : e_M), e_E X d YX2_priceOfSeen [.inr (.inr 20)] (557, gn, e_RF, (e_up (e_up N20 23 6 r21) 23 7 p1)) (.inl (some (.inl r24)), (557, gn, e_RF, N23)) ∧ (o = (.inl (some (.inl r24)), (557, gn, e_RF, N23))))))))))))))) : e_G X (d + 1) YX3_priceFor 0 [some (.inr (.inr 43)), some (.inl p1), none, none, none] [] (557, gn, e_RF, M) o := by
  refine e_r_aload_n (pc' := 1) (by decide) dX3_priceFor_0 rfl rfl rfl ?_
  obtain ⟨r2, N1, he3, h⟩ := h
  refine e_r_callV (a := 43) (av := []) (st := []) mqYX3_boughtBits ml_RX3_65 cl_3 rfl (Nat.le_of_ble_eq_true rfl) (by simp [e_cat]) rfl rfl rfl dX3_priceFor_1 (pc' := 4) rfl he3 ⟨Nat.le_refl _, Nat.le_refl _⟩ hmo ?_
  refine e_r_iconst (pc' := 5) dX3_priceFor_4 rfl (by decide) ?_
  refine e_r_iload_n (pc' := 6) dX3_priceFor_5 rfl rfl rfl ?_
  refine e_r_ishl (pc' := 7) dX3_priceFor_6 rfl ?_
  refine e_r_iconst (pc' := 8) dX3_priceFor_7 rfl (by decide) ?_
  refine e_r_ixor (pc' := 9) dX3_priceFor_8 rfl ?_
  refine e_r_iand (pc' := 10) dX3_priceFor_9 rfl ?_
  refine e_r_istore_n (pc' := 11) (loc' := [some (.inr (.inr 43)), some (.inl p1), some (.inl (e_and r2 (e_xor (e_shl 1 p1) (-1)))), none, none]) dX3_priceFor_10 rfl rfl rfl rfl rfl ?_
  refine e_r_aload_n (pc' := 12) (by decide) dX3_priceFor_11 rfl rfl rfl ?_
  refine e_r_getr (k := 0) (q := 4) (pc' := 15) cl_3 rfl (Nat.le_of_ble_eq_true rfl) rfl rfl fl_RX3_40 rfl (Nat.le_of_ble_eq_true rfl) dX3_priceFor_12 rfl ?_
  refine e_r_geti (k := 0) (pc' := 18) cl_8 rfl (Nat.le_of_ble_eq_true rfl) rfl rfl fl_RX3_58 dX3_priceFor_15 rfl ?_
  obtain ⟨r5, N4, he6, h⟩ := h
  refine e_r_callSN (av := [.inl (N1 4 0)]) (st := []) mqYX10_bitsBelow nl_RX3_61 (by simp [e_cat]) rfl rfl rfl dX3_priceFor_18 (pc' := 21) rfl he6 ⟨Nat.le_refl _, Nat.le_refl _⟩ hmo ?_
  refine e_r_iconst (pc' := 22) dX3_priceFor_21 rfl (by decide) ?_
  refine e_r_iload_n (pc' := 23) dX3_priceFor_22 rfl rfl rfl ?_
  refine e_r_ishl (pc' := 24) dX3_priceFor_23 rfl ?_
  refine e_r_iconst (pc' := 25) dX3_priceFor_24 rfl (by decide) ?_
  refine e_r_ixor (pc' := 26) dX3_priceFor_25 rfl ?_
  refine e_r_iand (pc' := 27) dX3_priceFor_26 rfl ?_
  refine e_r_iload_n (pc' := 28) dX3_priceFor_27 rfl rfl rfl ?_
  refine e_r_iconst (pc' := 29) dX3_priceFor_28 rfl (by decide) ?_
  refine e_r_ixor (pc' := 30) dX3_priceFor_29 rfl ?_
  refine e_r_iand (pc' := 31) dX3_priceFor_30 rfl ?_
  refine e_r_istore_n (pc' := 32) (loc' := [some (.inr (.inr 43)), some (.inl p1), some (.inl (e_and r2 (e_xor (e_shl 1 p1) (-1)))), some (.inl (e_and (e_and r5 (e_xor (e_shl 1 p1) (-1))) (e_xor (e_and r2 (e_xor (e_shl 1 p1) (-1))) (-1)))), none]) dX3_priceFor_31 rfl rfl rfl rfl rfl ?_
  refine e_r_aload_n (pc' := 33) (by decide) dX3_priceFor_32 rfl rfl rfl ?_
  refine e_r_getr (k := 1) (q := 20) (pc' := 36) cl_3 rfl (Nat.le_of_ble_eq_true rfl) rfl rfl fl_RX3_44 rfl (Nat.le_of_ble_eq_true rfl) dX3_priceFor_33 rfl ?_
  refine e_r_getr (k := 3) (q := 23) (pc' := 39) cl_2 rfl (Nat.le_of_ble_eq_true rfl) rfl rfl fl_RX3_103 rfl (Nat.le_of_ble_eq_true rfl) dX3_priceFor_36 rfl ?_
  refine e_r_astore (pc' := 41) (loc' := [some (.inr (.inr 43)), some (.inl p1), some (.inl (e_and r2 (e_xor (e_shl 1 p1) (-1)))), some (.inl (e_and (e_and r5 (e_xor (e_shl 1 p1) (-1))) (e_xor (e_and r2 (e_xor (e_shl 1 p1) (-1))) (-1)))), some (.inr (.inr 23))]) (by decide) dX3_priceFor_39 rfl rfl rfl rfl ?_
  refine e_r_aload (pc' := 43) (by decide) dX3_priceFor_41 rfl rfl ?_
  refine e_r_iconst (pc' := 44) dX3_priceFor_43 rfl (by decide) ?_
  refine e_r_aload_n (pc' := 45) (by decide) dX3_priceFor_44 rfl rfl rfl ?_
  refine e_r_geti (k := 2) (pc' := 48) cl_3 rfl (Nat.le_of_ble_eq_true rfl) rfl rfl fl_RX3_9 dX3_priceFor_45 rfl ?_
  refine e_r_iast (j9 := 0) (pc' := 49) rfl (Nat.le_of_ble_eq_true rfl) (by decide) (by decide) rfl dX3_priceFor_48 rfl ?_
  refine e_r_aload (pc' := 51) (by decide) dX3_priceFor_49 rfl rfl ?_
  refine e_r_iconst (pc' := 52) dX3_priceFor_51 rfl (by decide) ?_
  refine e_r_iload_n (pc' := 53) dX3_priceFor_52 rfl rfl rfl ?_
  obtain ⟨r8, N7, he9, h⟩ := h
  refine e_r_callS (av := [.inl (e_and r2 (e_xor (e_shl 1 p1) (-1)))]) (st := [.inl 1, .inr (.inr 23)]) mqYJ6_bitCount_0f7a4 ml_RX3_108 (by simp [e_cat]) rfl rfl rfl dX3_priceFor_53 (pc' := 56) rfl he9 ⟨Nat.le_refl _, Nat.le_refl _⟩ hmo ?_
  refine e_r_iast (j9 := 1) (pc' := 57) rfl (Nat.le_of_ble_eq_true rfl) (by decide) (by decide) rfl dX3_priceFor_56 rfl ?_
  refine e_r_aload (pc' := 59) (by decide) dX3_priceFor_57 rfl rfl ?_
  refine e_r_iconst (pc' := 60) dX3_priceFor_59 rfl (by decide) ?_
  refine e_r_aload_n (pc' := 61) (by decide) dX3_priceFor_60 rfl rfl rfl ?_
  refine e_r_getr (k := 7) (q := 46) (pc' := 64) cl_3 rfl (Nat.le_of_ble_eq_true rfl) rfl rfl fl_RX3_28 rfl (Nat.le_of_ble_eq_true rfl) dX3_priceFor_61 rfl ?_
  refine e_r_iload_n (pc' := 65) dX3_priceFor_64 rfl rfl rfl ?_
  obtain ⟨hb10, h⟩ := h
  refine e_r_iald (j9 := p1.toNat) (pc' := 66) rfl (Nat.le_of_ble_eq_true rfl) hb10.1 hb10.2 rfl dX3_priceFor_65 rfl ?_
  refine e_r_iast (j9 := 2) (pc' := 67) rfl (Nat.le_of_ble_eq_true rfl) (by decide) (by decide) rfl dX3_priceFor_66 rfl ?_
  refine e_r_aload (pc' := 69) (by decide) dX3_priceFor_67 rfl rfl ?_
  refine e_r_iconst (pc' := 70) dX3_priceFor_69 rfl (by decide) ?_
  refine e_r_aload_n (pc' := 71) (by decide) dX3_priceFor_70 rfl rfl rfl ?_
  refine e_r_getr (k := 5) (q := 44) (pc' := 74) cl_3 rfl (Nat.le_of_ble_eq_true rfl) rfl rfl fl_RX3_21 rfl (Nat.le_of_ble_eq_true rfl) dX3_priceFor_71 rfl ?_
  refine e_r_iload_n (pc' := 75) dX3_priceFor_74 rfl rfl rfl ?_
  obtain ⟨hb11, h⟩ := h
  refine e_r_iald (j9 := p1.toNat) (pc' := 76) rfl (Nat.le_of_ble_eq_true rfl) hb11.1 hb11.2 rfl dX3_priceFor_75 rfl ?_
  refine e_r_iast (j9 := 3) (pc' := 77) rfl (Nat.le_of_ble_eq_true rfl) (by decide) (by decide) rfl dX3_priceFor_76 rfl ?_
  refine e_r_aload (pc' := 79) (by decide) dX3_priceFor_77 rfl rfl ?_
  refine e_r_iconst (pc' := 80) dX3_priceFor_79 rfl (by decide) ?_
  refine e_r_aload_n (pc' := 81) (by decide) dX3_priceFor_80 rfl rfl rfl ?_
  refine e_r_getr (k := 0) (q := 4) (pc' := 84) cl_3 rfl (Nat.le_of_ble_eq_true rfl) rfl rfl fl_RX3_40 rfl (Nat.le_of_ble_eq_true rfl) dX3_priceFor_81 rfl ?_
  refine e_r_getr (k := 4) (q := 6) (pc' := 87) cl_8 rfl (Nat.le_of_ble_eq_true rfl) rfl rfl fl_RX3_113 rfl (Nat.le_of_ble_eq_true rfl) dX3_priceFor_84 rfl ?_
  refine e_r_iload_n (pc' := 88) dX3_priceFor_87 rfl rfl rfl ?_
  obtain ⟨hb12, h⟩ := h
  refine e_r_iald (j9 := p1.toNat) (pc' := 89) rfl (Nat.le_of_ble_eq_true rfl) hb12.1 hb12.2 rfl dX3_priceFor_88 rfl ?_
  refine e_r_iast (j9 := 4) (pc' := 90) rfl (Nat.le_of_ble_eq_true rfl) (by decide) (by decide) rfl dX3_priceFor_89 rfl ?_
  refine e_r_aload (pc' := 92) (by decide) dX3_priceFor_90 rfl rfl ?_
  refine e_r_iconst (pc' := 93) dX3_priceFor_92 rfl (by decide) ?_
  refine e_r_aload_n (pc' := 94) (by decide) dX3_priceFor_93 rfl rfl rfl ?_
  refine e_r_getr (k := 0) (q := 4) (pc' := 97) cl_3 rfl (Nat.le_of_ble_eq_true rfl) rfl rfl fl_RX3_40 rfl (Nat.le_of_ble_eq_true rfl) dX3_priceFor_94 rfl ?_
  refine e_r_getr (k := 5) (q := 7) (pc' := 100) cl_8 rfl (Nat.le_of_ble_eq_true rfl) rfl rfl fl_RX3_116 rfl (Nat.le_of_ble_eq_true rfl) dX3_priceFor_97 rfl ?_
  refine e_r_iload_n (pc' := 101) dX3_priceFor_100 rfl rfl rfl ?_
  obtain ⟨hb13, h⟩ := h
  refine e_r_iald (j9 := p1.toNat) (pc' := 102) rfl (Nat.le_of_ble_eq_true rfl) hb13.1 hb13.2 rfl dX3_priceFor_101 rfl ?_
  refine e_r_aload_n (pc' := 103) (by decide) dX3_priceFor_102 rfl rfl rfl ?_
  refine e_r_getr (k := 0) (q := 4) (pc' := 106) cl_3 rfl (Nat.le_of_ble_eq_true rfl) rfl rfl fl_RX3_40 rfl (Nat.le_of_ble_eq_true rfl) dX3_priceFor_103 rfl ?_
  refine e_r_iload_n (pc' := 107) dX3_priceFor_106 rfl rfl rfl ?_
  obtain ⟨r15, N14, he16, h⟩ := h
  refine e_r_callV (a := 4) (av := [.inl (e_and (e_and r5 (e_xor (e_shl 1 p1) (-1))) (e_xor (e_and r2 (e_xor (e_shl 1 p1) (-1))) (-1)))]) (st := [.inl ((e_up (e_up (e_up (e_up N7 23 1 r8) 23 2 ((e_up N7 23 1 r8) 46 p1.toNat)) 23 3 ((e_up (e_up N7 23 1 r8) 23 2 ((e_up N7 23 1 r8) 46 p1.toNat)) 44 p1.toNat)) 23 4 ((e_up (e_up (e_up N7 23 1 r8) 23 2 ((e_up N7 23 1 r8) 46 p1.toNat)) 23 3 ((e_up (e_up N7 23 1 r8) 23 2 ((e_up N7 23 1 r8) 46 p1.toNat)) 44 p1.toNat)) 6 p1.toNat)) 7 p1.toNat), .inl 5, .inr (.inr 23)]) mqYX8_skillsOf ml_RX3_72 cl_8 rfl (Nat.le_of_ble_eq_true rfl) (by simp [e_cat]) rfl rfl rfl dX3_priceFor_107 (pc' := 110) rfl he16 ⟨Nat.le_refl _, Nat.le_refl _⟩ hmo ?_
  refine e_r_iconst (pc' := 111) dX3_priceFor_110 rfl (by decide) ?_
  refine e_r_ixor (pc' := 112) dX3_priceFor_111 rfl ?_
  refine e_r_iand (pc' := 113) dX3_priceFor_112 rfl ?_
  obtain ⟨r18, N17, he19, h⟩ := h
  refine e_r_callS (av := [.inl (e_and ((e_up (e_up (e_up (e_up N7 23 1 r8) 23 2 ((e_up N7 23 1 r8) 46 p1.toNat)) 23 3 ((e_up (e_up N7 23 1 r8) 23 2 ((e_up N7 23 1 r8) 46 p1.toNat)) 44 p1.toNat)) 23 4 ((e_up (e_up (e_up N7 23 1 r8) 23 2 ((e_up N7 23 1 r8) 46 p1.toNat)) 23 3 ((e_up (e_up N7 23 1 r8) 23 2 ((e_up N7 23 1 r8) 46 p1.toNat)) 44 p1.toNat)) 6 p1.toNat)) 7 p1.toNat) (e_xor r15 (-1)))]) (st := [.inl 5, .inr (.inr 23)]) mqYJ6_bitCount_0f7a4 ml_RX3_108 (by simp [e_cat]) rfl rfl rfl dX3_priceFor_113 (pc' := 116) rfl he19 ⟨Nat.le_refl _, Nat.le_refl _⟩ hmo ?_
  refine e_r_iast (j9 := 5) (pc' := 117) rfl (Nat.le_of_ble_eq_true rfl) (by decide) (by decide) rfl dX3_priceFor_116 rfl ?_
  refine e_r_aload (pc' := 119) (by decide) dX3_priceFor_117 rfl rfl ?_
  refine e_r_bipush (pc' := 121) dX3_priceFor_119 rfl (by decide) ?_
  refine e_r_aload_n (pc' := 122) (by decide) dX3_priceFor_121 rfl rfl rfl ?_
  refine e_r_iload_n (pc' := 123) dX3_priceFor_122 rfl rfl rfl ?_
  obtain ⟨r21, N20, he22, h⟩ := h
  refine e_r_callV (a := 43) (av := [.inl p1]) (st := [.inl 6, .inr (.inr 23)]) mqYX3_tasksNow ml_RX3_119 cl_3 rfl (Nat.le_of_ble_eq_true rfl) (by simp [e_cat]) rfl rfl rfl dX3_priceFor_123 (pc' := 126) rfl he22 ⟨Nat.le_refl _, Nat.le_refl _⟩ hmo ?_
  refine e_r_iast (j9 := 6) (pc' := 127) rfl (Nat.le_of_ble_eq_true rfl) (by decide) (by decide) rfl dX3_priceFor_126 rfl ?_
  refine e_r_aload (pc' := 129) (by decide) dX3_priceFor_127 rfl rfl ?_
  refine e_r_bipush (pc' := 131) dX3_priceFor_129 rfl (by decide) ?_
  refine e_r_iload_n (pc' := 132) dX3_priceFor_131 rfl rfl rfl ?_
  refine e_r_iast (j9 := 7) (pc' := 133) rfl (Nat.le_of_ble_eq_true rfl) (by decide) (by decide) rfl dX3_priceFor_132 rfl ?_
  refine e_r_aload_n (pc' := 134) (by decide) dX3_priceFor_133 rfl rfl rfl ?_
  refine e_r_getr (k := 1) (q := 20) (pc' := 137) cl_3 rfl (Nat.le_of_ble_eq_true rfl) rfl rfl fl_RX3_44 rfl (Nat.le_of_ble_eq_true rfl) dX3_priceFor_134 rfl ?_
  obtain ⟨r24, N23, he25, h⟩ := h
  refine e_r_callV (a := 20) (av := []) (st := []) mqYX2_priceOfSeen ml_RX3_122 cl_2 rfl (Nat.le_of_ble_eq_true rfl) (by simp [e_cat]) rfl rfl rfl dX3_priceFor_137 (pc' := 140) rfl he25 ⟨Nat.le_refl _, Nat.le_refl _⟩ hmo ?_
  exact e_r_iret (ty := .int) rfl (e_nI _) dX3_priceFor_140 h
theorem wp_X3_canBuy_now_0 {X : e_X} {d gn : Nat} {o : e_O} (M : e_M) (p1 : Int) (hmo : e_mn (557, gn, e_RF, M) o.2) (h : (∃ (r2 : Int) (N1 : e_M), e_E X d YX3_hasBought [.inr (.inr 36), .inl p1] (557, gn, e_RF, M) (.inl (some (.inl r2)), (557, gn, e_RF, N1)) ∧ ((¬ r2 = 0 → (o = (.inl (some (.inl 0)), (557, gn, e_RF, N1)))) ∧ (r2 = 0 → ((0 ≤ p1 ∧ p1 < 6) ∧ (∃ (r8 : Int) (N7 : e_M), e_E X d YX3_priceFor [.inr (.inr 36), .inl p1] (557, gn, e_RF, N1) (.inl (some (.inl r8)), (557, gn, e_RF, N7)) ∧ (((N1 37 p1.toNat) < r8 → (o = (.inl (some (.inl 0)), (557, gn, e_RF, N7)))) ∧ (¬ ((N1 37 p1.toNat) < r8) → (o = (.inl (some (.inl 1)), (557, gn, e_RF, N7))))))))))) : e_G X (d + 1) YX3_canBuy 0 [some (.inr (.inr 36)), some (.inl p1)] [] (557, gn, e_RF, M) o := by
  refine e_r_aload_n (pc' := 1) (by decide) dX3_canBuy_0 rfl rfl rfl ?_
  refine e_r_iload_n (pc' := 2) dX3_canBuy_1 rfl rfl rfl ?_
  obtain ⟨r2, N1, he3, h⟩ := h
  refine e_r_callV (a := 36) (av := [.inl p1]) (st := []) mqYX3_hasBought ml_RX3_125 cl_3 rfl (Nat.le_of_ble_eq_true rfl) (by simp [e_cat]) rfl rfl rfl dX3_canBuy_2 (pc' := 5) rfl he3 ⟨Nat.le_refl _, Nat.le_refl _⟩ hmo ?_
  obtain ⟨ht4, hf5⟩ := h
  refine e_r_if_ne (tgt := 26) (pc' := 8) dX3_canBuy_5 rfl rfl (fun c => ?_) (fun c => ?_)
  · have h := ht4 c
    refine e_r_iconst (pc' := 27) dX3_canBuy_26 rfl (by decide) ?_
    exact e_r_iret (ty := .boolean) rfl (e_nZ (by decide)) dX3_canBuy_27 h
  · have h := hf5 c
    refine e_r_aload_n (pc' := 9) (by decide) dX3_canBuy_8 rfl rfl rfl ?_
    refine e_r_getr (k := 5) (q := 37) (pc' := 12) cl_3 rfl (Nat.le_of_ble_eq_true rfl) rfl rfl fl_RX3_21 rfl (Nat.le_of_ble_eq_true rfl) dX3_canBuy_9 rfl ?_
    refine e_r_iload_n (pc' := 13) dX3_canBuy_12 rfl rfl rfl ?_
    obtain ⟨hb6, h⟩ := h
    refine e_r_iald (j9 := p1.toNat) (pc' := 14) rfl (Nat.le_of_ble_eq_true rfl) hb6.1 hb6.2 rfl dX3_canBuy_13 rfl ?_
    refine e_r_aload_n (pc' := 15) (by decide) dX3_canBuy_14 rfl rfl rfl ?_
    refine e_r_iload_n (pc' := 16) dX3_canBuy_15 rfl rfl rfl ?_
    obtain ⟨r8, N7, he9, h⟩ := h
    refine e_r_callV (a := 36) (av := [.inl p1]) (st := [.inl (N1 37 p1.toNat)]) mqYX3_priceFor ml_RX3_128 cl_3 rfl (Nat.le_of_ble_eq_true rfl) (by simp [e_cat]) rfl rfl rfl dX3_canBuy_16 (pc' := 19) rfl he9 ⟨Nat.le_refl _, Nat.le_refl _⟩ hmo ?_
    obtain ⟨ht10, hf11⟩ := h
    refine e_r_icmp_lt (tgt := 26) (pc' := 22) dX3_canBuy_19 rfl rfl (fun c => ?_) (fun c => ?_)
    · have h := ht10 c
      refine e_r_iconst (pc' := 27) dX3_canBuy_26 rfl (by decide) ?_
      exact e_r_iret (ty := .boolean) rfl (e_nZ (by decide)) dX3_canBuy_27 h
    · have h := hf11 c
      refine e_r_iconst (pc' := 23) dX3_canBuy_22 rfl (by decide) ?_
      refine e_r_goto (pc' := 27) dX3_canBuy_23 rfl ?_
      exact e_r_iret (ty := .boolean) rfl (e_nZ (by decide)) dX3_canBuy_27 h
theorem wp_X3_canBuy_trial_0 {X : e_X} {d gn : Nat} {o : e_O} (M : e_M) (p1 : Int) (hmo : e_mn (557, gn, e_RF, M) o.2) (h : (∃ (r2 : Int) (N1 : e_M), e_E X d YX3_hasBought [.inr (.inr 43), .inl p1] (557, gn, e_RF, M) (.inl (some (.inl r2)), (557, gn, e_RF, N1)) ∧ ((¬ r2 = 0 → (o = (.inl (some (.inl 0)), (557, gn, e_RF, N1)))) ∧ (r2 = 0 → ((0 ≤ p1 ∧ p1 < 6) ∧ (∃ (r8 : Int) (N7 : e_M), e_E X d YX3_priceFor [.inr (.inr 43), .inl p1] (557, gn, e_RF, N1) (.inl (some (.inl r8)), (557, gn, e_RF, N7)) ∧ (((N1 44 p1.toNat) < r8 → (o = (.inl (some (.inl 0)), (557, gn, e_RF, N7)))) ∧ (¬ ((N1 44 p1.toNat) < r8) → (o = (.inl (some (.inl 1)), (557, gn, e_RF, N7))))))))))) : e_G X (d + 1) YX3_canBuy 0 [some (.inr (.inr 43)), some (.inl p1)] [] (557, gn, e_RF, M) o := by
  refine e_r_aload_n (pc' := 1) (by decide) dX3_canBuy_0 rfl rfl rfl ?_
  refine e_r_iload_n (pc' := 2) dX3_canBuy_1 rfl rfl rfl ?_
  obtain ⟨r2, N1, he3, h⟩ := h
  refine e_r_callV (a := 43) (av := [.inl p1]) (st := []) mqYX3_hasBought ml_RX3_125 cl_3 rfl (Nat.le_of_ble_eq_true rfl) (by simp [e_cat]) rfl rfl rfl dX3_canBuy_2 (pc' := 5) rfl he3 ⟨Nat.le_refl _, Nat.le_refl _⟩ hmo ?_
  obtain ⟨ht4, hf5⟩ := h
  refine e_r_if_ne (tgt := 26) (pc' := 8) dX3_canBuy_5 rfl rfl (fun c => ?_) (fun c => ?_)
  · have h := ht4 c
    refine e_r_iconst (pc' := 27) dX3_canBuy_26 rfl (by decide) ?_
    exact e_r_iret (ty := .boolean) rfl (e_nZ (by decide)) dX3_canBuy_27 h
  · have h := hf5 c
    refine e_r_aload_n (pc' := 9) (by decide) dX3_canBuy_8 rfl rfl rfl ?_
    refine e_r_getr (k := 5) (q := 44) (pc' := 12) cl_3 rfl (Nat.le_of_ble_eq_true rfl) rfl rfl fl_RX3_21 rfl (Nat.le_of_ble_eq_true rfl) dX3_canBuy_9 rfl ?_
    refine e_r_iload_n (pc' := 13) dX3_canBuy_12 rfl rfl rfl ?_
    obtain ⟨hb6, h⟩ := h
    refine e_r_iald (j9 := p1.toNat) (pc' := 14) rfl (Nat.le_of_ble_eq_true rfl) hb6.1 hb6.2 rfl dX3_canBuy_13 rfl ?_
    refine e_r_aload_n (pc' := 15) (by decide) dX3_canBuy_14 rfl rfl rfl ?_
    refine e_r_iload_n (pc' := 16) dX3_canBuy_15 rfl rfl rfl ?_
    obtain ⟨r8, N7, he9, h⟩ := h
    refine e_r_callV (a := 43) (av := [.inl p1]) (st := [.inl (N1 44 p1.toNat)]) mqYX3_priceFor ml_RX3_128 cl_3 rfl (Nat.le_of_ble_eq_true rfl) (by simp [e_cat]) rfl rfl rfl dX3_canBuy_16 (pc' := 19) rfl he9 ⟨Nat.le_refl _, Nat.le_refl _⟩ hmo ?_
    obtain ⟨ht10, hf11⟩ := h
    refine e_r_icmp_lt (tgt := 26) (pc' := 22) dX3_canBuy_19 rfl rfl (fun c => ?_) (fun c => ?_)
    · have h := ht10 c
      refine e_r_iconst (pc' := 27) dX3_canBuy_26 rfl (by decide) ?_
      exact e_r_iret (ty := .boolean) rfl (e_nZ (by decide)) dX3_canBuy_27 h
    · have h := hf11 c
      refine e_r_iconst (pc' := 23) dX3_canBuy_22 rfl (by decide) ?_
      refine e_r_goto (pc' := 27) dX3_canBuy_23 rfl ?_
      exact e_r_iret (ty := .boolean) rfl (e_nZ (by decide)) dX3_canBuy_27 h
theorem wp_X3_buyOff_now_0 {X : e_X} {d gn : Nat} {o : e_O} (M : e_M) (p1 : Int) (hmo : e_mn (557, gn, e_RF, M) o.2) (h : (∃ (r2 : Int) (N1 : e_M), e_E X d YX3_hasBought [.inr (.inr 36), .inl p1] (557, gn, e_RF, M) (.inl (some (.inl r2)), (557, gn, e_RF, N1)) ∧ ((r2 = 0 → (∃ (r7 : Int) (N6 : e_M), e_E X d YX3_priceFor [.inr (.inr 36), .inl p1] (557, gn, e_RF, N1) (.inl (some (.inl r7)), (557, gn, e_RF, N6)) ∧ ((0 ≤ p1 ∧ p1 < 6) ∧ ((r7 ≤ (N6 37 p1.toNat) → ((0 ≤ p1 ∧ p1 < 6) ∧ ((0 ≤ p1 ∧ p1 < 6) ∧ ((0 ≤ p1 ∧ p1 < 6) ∧ (o = (.inl (some (.inl 1)), (557, gn, e_RF, (e_up (e_up N6 37 p1.toNat (e_w ((N6 37 p1.toNat) - r7))) 40 p1.toNat r7)))))))) ∧ (¬ (r7 ≤ (N6 37 p1.toNat)) → (o = (.inl (some (.inl 0)), (557, gn, e_RF, N6)))))))) ∧ (¬ (r2 = 0) → (o = (.inl (some (.inl 0)), (557, gn, e_RF, N1))))))) : e_G X (d + 1) YX3_buyOff 0 [some (.inr (.inr 36)), some (.inl p1), none] [] (557, gn, e_RF, M) o := by
  refine e_r_aload_n (pc' := 1) (by decide) dX3_buyOff_0 rfl rfl rfl ?_
  refine e_r_iload_n (pc' := 2) dX3_buyOff_1 rfl rfl rfl ?_
  obtain ⟨r2, N1, he3, h⟩ := h
  refine e_r_callV (a := 36) (av := [.inl p1]) (st := []) mqYX3_hasBought ml_RX3_125 cl_3 rfl (Nat.le_of_ble_eq_true rfl) (by simp [e_cat]) rfl rfl rfl dX3_buyOff_2 (pc' := 5) rfl he3 ⟨Nat.le_refl _, Nat.le_refl _⟩ hmo ?_
  obtain ⟨ht4, hf5⟩ := h
  refine e_r_if_eq (tgt := 10) (pc' := 8) dX3_buyOff_5 rfl rfl (fun c => ?_) (fun c => ?_)
  · have h := ht4 c
    refine e_r_aload_n (pc' := 11) (by decide) dX3_buyOff_10 rfl rfl rfl ?_
    refine e_r_iload_n (pc' := 12) dX3_buyOff_11 rfl rfl rfl ?_
    obtain ⟨r7, N6, he8, h⟩ := h
    refine e_r_callV (a := 36) (av := [.inl p1]) (st := []) mqYX3_priceFor ml_RX3_128 cl_3 rfl (Nat.le_of_ble_eq_true rfl) (by simp [e_cat]) rfl rfl rfl dX3_buyOff_12 (pc' := 15) rfl he8 ⟨Nat.le_refl _, Nat.le_refl _⟩ hmo ?_
    refine e_r_istore_n (pc' := 16) (loc' := [some (.inr (.inr 36)), some (.inl p1), some (.inl r7)]) dX3_buyOff_15 rfl rfl rfl rfl rfl ?_
    refine e_r_aload_n (pc' := 17) (by decide) dX3_buyOff_16 rfl rfl rfl ?_
    refine e_r_getr (k := 5) (q := 37) (pc' := 20) cl_3 rfl (Nat.le_of_ble_eq_true rfl) rfl rfl fl_RX3_21 rfl (Nat.le_of_ble_eq_true rfl) dX3_buyOff_17 rfl ?_
    refine e_r_iload_n (pc' := 21) dX3_buyOff_20 rfl rfl rfl ?_
    obtain ⟨hb9, h⟩ := h
    refine e_r_iald (j9 := p1.toNat) (pc' := 22) rfl (Nat.le_of_ble_eq_true rfl) hb9.1 hb9.2 rfl dX3_buyOff_21 rfl ?_
    refine e_r_iload_n (pc' := 23) dX3_buyOff_22 rfl rfl rfl ?_
    obtain ⟨ht10, hf11⟩ := h
    refine e_r_icmp_ge (tgt := 28) (pc' := 26) dX3_buyOff_23 rfl rfl (fun c => ?_) (fun c => ?_)
    · have h := ht10 c
      refine e_r_aload_n (pc' := 29) (by decide) dX3_buyOff_28 rfl rfl rfl ?_
      refine e_r_getr (k := 5) (q := 37) (pc' := 32) cl_3 rfl (Nat.le_of_ble_eq_true rfl) rfl rfl fl_RX3_21 rfl (Nat.le_of_ble_eq_true rfl) dX3_buyOff_29 rfl ?_
      refine e_r_iload_n (pc' := 33) dX3_buyOff_32 rfl rfl rfl ?_
      refine e_r_dup2 (pc' := 34) rfl rfl dX3_buyOff_33 rfl ?_
      obtain ⟨hb12, h⟩ := h
      refine e_r_iald (j9 := p1.toNat) (pc' := 35) rfl (Nat.le_of_ble_eq_true rfl) hb12.1 hb12.2 rfl dX3_buyOff_34 rfl ?_
      refine e_r_iload_n (pc' := 36) dX3_buyOff_35 rfl rfl rfl ?_
      refine e_r_isub (pc' := 37) dX3_buyOff_36 rfl ?_
      obtain ⟨hb13, h⟩ := h
      refine e_r_iast (j9 := p1.toNat) (pc' := 38) rfl (Nat.le_of_ble_eq_true rfl) hb13.1 hb13.2 rfl dX3_buyOff_37 rfl ?_
      refine e_r_aload_n (pc' := 39) (by decide) dX3_buyOff_38 rfl rfl rfl ?_
      refine e_r_getr (k := 8) (q := 40) (pc' := 42) cl_3 rfl (Nat.le_of_ble_eq_true rfl) rfl rfl fl_RX3_31 rfl (Nat.le_of_ble_eq_true rfl) dX3_buyOff_39 rfl ?_
      refine e_r_iload_n (pc' := 43) dX3_buyOff_42 rfl rfl rfl ?_
      refine e_r_iload_n (pc' := 44) dX3_buyOff_43 rfl rfl rfl ?_
      obtain ⟨hb14, h⟩ := h
      refine e_r_iast (j9 := p1.toNat) (pc' := 45) rfl (Nat.le_of_ble_eq_true rfl) hb14.1 hb14.2 rfl dX3_buyOff_44 rfl ?_
      refine e_r_iconst (pc' := 46) dX3_buyOff_45 rfl (by decide) ?_
      exact e_r_iret (ty := .boolean) rfl (e_nZ (by decide)) dX3_buyOff_46 h
    · have h := hf11 c
      refine e_r_iconst (pc' := 27) dX3_buyOff_26 rfl (by decide) ?_
      exact e_r_iret (ty := .boolean) rfl (e_nZ (by decide)) dX3_buyOff_27 h
  · have h := hf5 c
    refine e_r_iconst (pc' := 9) dX3_buyOff_8 rfl (by decide) ?_
    exact e_r_iret (ty := .boolean) rfl (e_nZ (by decide)) dX3_buyOff_9 h
theorem wp_X3_buyOff_trial_0 {X : e_X} {d gn : Nat} {o : e_O} (M : e_M) (p1 : Int) (hmo : e_mn (557, gn, e_RF, M) o.2) (h : (∃ (r2 : Int) (N1 : e_M), e_E X d YX3_hasBought [.inr (.inr 43), .inl p1] (557, gn, e_RF, M) (.inl (some (.inl r2)), (557, gn, e_RF, N1)) ∧ ((r2 = 0 → (∃ (r7 : Int) (N6 : e_M), e_E X d YX3_priceFor [.inr (.inr 43), .inl p1] (557, gn, e_RF, N1) (.inl (some (.inl r7)), (557, gn, e_RF, N6)) ∧ ((0 ≤ p1 ∧ p1 < 6) ∧ ((r7 ≤ (N6 44 p1.toNat) → ((0 ≤ p1 ∧ p1 < 6) ∧ ((0 ≤ p1 ∧ p1 < 6) ∧ ((0 ≤ p1 ∧ p1 < 6) ∧ (o = (.inl (some (.inl 1)), (557, gn, e_RF, (e_up (e_up N6 44 p1.toNat (e_w ((N6 44 p1.toNat) - r7))) 47 p1.toNat r7)))))))) ∧ (¬ (r7 ≤ (N6 44 p1.toNat)) → (o = (.inl (some (.inl 0)), (557, gn, e_RF, N6)))))))) ∧ (¬ (r2 = 0) → (o = (.inl (some (.inl 0)), (557, gn, e_RF, N1))))))) : e_G X (d + 1) YX3_buyOff 0 [some (.inr (.inr 43)), some (.inl p1), none] [] (557, gn, e_RF, M) o := by
  refine e_r_aload_n (pc' := 1) (by decide) dX3_buyOff_0 rfl rfl rfl ?_
  refine e_r_iload_n (pc' := 2) dX3_buyOff_1 rfl rfl rfl ?_
  obtain ⟨r2, N1, he3, h⟩ := h
  refine e_r_callV (a := 43) (av := [.inl p1]) (st := []) mqYX3_hasBought ml_RX3_125 cl_3 rfl (Nat.le_of_ble_eq_true rfl) (by simp [e_cat]) rfl rfl rfl dX3_buyOff_2 (pc' := 5) rfl he3 ⟨Nat.le_refl _, Nat.le_refl _⟩ hmo ?_
  obtain ⟨ht4, hf5⟩ := h
  refine e_r_if_eq (tgt := 10) (pc' := 8) dX3_buyOff_5 rfl rfl (fun c => ?_) (fun c => ?_)
  · have h := ht4 c
    refine e_r_aload_n (pc' := 11) (by decide) dX3_buyOff_10 rfl rfl rfl ?_
    refine e_r_iload_n (pc' := 12) dX3_buyOff_11 rfl rfl rfl ?_
    obtain ⟨r7, N6, he8, h⟩ := h
    refine e_r_callV (a := 43) (av := [.inl p1]) (st := []) mqYX3_priceFor ml_RX3_128 cl_3 rfl (Nat.le_of_ble_eq_true rfl) (by simp [e_cat]) rfl rfl rfl dX3_buyOff_12 (pc' := 15) rfl he8 ⟨Nat.le_refl _, Nat.le_refl _⟩ hmo ?_
    refine e_r_istore_n (pc' := 16) (loc' := [some (.inr (.inr 43)), some (.inl p1), some (.inl r7)]) dX3_buyOff_15 rfl rfl rfl rfl rfl ?_
    refine e_r_aload_n (pc' := 17) (by decide) dX3_buyOff_16 rfl rfl rfl ?_
    refine e_r_getr (k := 5) (q := 44) (pc' := 20) cl_3 rfl (Nat.le_of_ble_eq_true rfl) rfl rfl fl_RX3_21 rfl (Nat.le_of_ble_eq_true rfl) dX3_buyOff_17 rfl ?_
    refine e_r_iload_n (pc' := 21) dX3_buyOff_20 rfl rfl rfl ?_
    obtain ⟨hb9, h⟩ := h
    refine e_r_iald (j9 := p1.toNat) (pc' := 22) rfl (Nat.le_of_ble_eq_true rfl) hb9.1 hb9.2 rfl dX3_buyOff_21 rfl ?_
    refine e_r_iload_n (pc' := 23) dX3_buyOff_22 rfl rfl rfl ?_
    obtain ⟨ht10, hf11⟩ := h
    refine e_r_icmp_ge (tgt := 28) (pc' := 26) dX3_buyOff_23 rfl rfl (fun c => ?_) (fun c => ?_)
    · have h := ht10 c
      refine e_r_aload_n (pc' := 29) (by decide) dX3_buyOff_28 rfl rfl rfl ?_
      refine e_r_getr (k := 5) (q := 44) (pc' := 32) cl_3 rfl (Nat.le_of_ble_eq_true rfl) rfl rfl fl_RX3_21 rfl (Nat.le_of_ble_eq_true rfl) dX3_buyOff_29 rfl ?_
      refine e_r_iload_n (pc' := 33) dX3_buyOff_32 rfl rfl rfl ?_
      refine e_r_dup2 (pc' := 34) rfl rfl dX3_buyOff_33 rfl ?_
      obtain ⟨hb12, h⟩ := h
      refine e_r_iald (j9 := p1.toNat) (pc' := 35) rfl (Nat.le_of_ble_eq_true rfl) hb12.1 hb12.2 rfl dX3_buyOff_34 rfl ?_
      refine e_r_iload_n (pc' := 36) dX3_buyOff_35 rfl rfl rfl ?_
      refine e_r_isub (pc' := 37) dX3_buyOff_36 rfl ?_
      obtain ⟨hb13, h⟩ := h
      refine e_r_iast (j9 := p1.toNat) (pc' := 38) rfl (Nat.le_of_ble_eq_true rfl) hb13.1 hb13.2 rfl dX3_buyOff_37 rfl ?_
      refine e_r_aload_n (pc' := 39) (by decide) dX3_buyOff_38 rfl rfl rfl ?_
      refine e_r_getr (k := 8) (q := 47) (pc' := 42) cl_3 rfl (Nat.le_of_ble_eq_true rfl) rfl rfl fl_RX3_31 rfl (Nat.le_of_ble_eq_true rfl) dX3_buyOff_39 rfl ?_
      refine e_r_iload_n (pc' := 43) dX3_buyOff_42 rfl rfl rfl ?_
      refine e_r_iload_n (pc' := 44) dX3_buyOff_43 rfl rfl rfl ?_
      obtain ⟨hb14, h⟩ := h
      refine e_r_iast (j9 := p1.toNat) (pc' := 45) rfl (Nat.le_of_ble_eq_true rfl) hb14.1 hb14.2 rfl dX3_buyOff_44 rfl ?_
      refine e_r_iconst (pc' := 46) dX3_buyOff_45 rfl (by decide) ?_
      exact e_r_iret (ty := .boolean) rfl (e_nZ (by decide)) dX3_buyOff_46 h
    · have h := hf11 c
      refine e_r_iconst (pc' := 27) dX3_buyOff_26 rfl (by decide) ?_
      exact e_r_iret (ty := .boolean) rfl (e_nZ (by decide)) dX3_buyOff_27 h
  · have h := hf5 c
    refine e_r_iconst (pc' := 9) dX3_buyOff_8 rfl (by decide) ?_
    exact e_r_iret (ty := .boolean) rfl (e_nZ (by decide)) dX3_buyOff_9 h
theorem wp_X3_sellBack_now_0 {X : e_X} {d gn : Nat} {o : e_O} (M : e_M) (p1 : Int) (hmo : e_mn (557, gn, e_RF, M) o.2) (h : (∃ (r2 : Int) (N1 : e_M), e_E X d YX3_hasBought [.inr (.inr 36), .inl p1] (557, gn, e_RF, M) (.inl (some (.inl r2)), (557, gn, e_RF, N1)) ∧ ((¬ r2 = 0 → ((0 ≤ p1 ∧ p1 < 6) ∧ ((0 ≤ p1 ∧ p1 < 6) ∧ ((0 ≤ p1 ∧ p1 < 6) ∧ ((0 ≤ p1 ∧ p1 < 6) ∧ (o = (.inl (some (.inl 1)), (557, gn, e_RF, (e_up (e_up N1 37 p1.toNat (e_w ((N1 37 p1.toNat) + (e_w (Int.tdiv (N1 40 p1.toNat) 2))))) 40 p1.toNat (-1)))))))))) ∧ (r2 = 0 → (o = (.inl (some (.inl 0)), (557, gn, e_RF, N1))))))) : e_G X (d + 1) YX3_sellBack 0 [some (.inr (.inr 36)), some (.inl p1)] [] (557, gn, e_RF, M) o := by
  refine e_r_aload_n (pc' := 1) (by decide) dX3_sellBack_0 rfl rfl rfl ?_
  refine e_r_iload_n (pc' := 2) dX3_sellBack_1 rfl rfl rfl ?_
  obtain ⟨r2, N1, he3, h⟩ := h
  refine e_r_callV (a := 36) (av := [.inl p1]) (st := []) mqYX3_hasBought ml_RX3_125 cl_3 rfl (Nat.le_of_ble_eq_true rfl) (by simp [e_cat]) rfl rfl rfl dX3_sellBack_2 (pc' := 5) rfl he3 ⟨Nat.le_refl _, Nat.le_refl _⟩ hmo ?_
  obtain ⟨ht4, hf5⟩ := h
  refine e_r_if_ne (tgt := 10) (pc' := 8) dX3_sellBack_5 rfl rfl (fun c => ?_) (fun c => ?_)
  · have h := ht4 c
    refine e_r_aload_n (pc' := 11) (by decide) dX3_sellBack_10 rfl rfl rfl ?_
    refine e_r_getr (k := 5) (q := 37) (pc' := 14) cl_3 rfl (Nat.le_of_ble_eq_true rfl) rfl rfl fl_RX3_21 rfl (Nat.le_of_ble_eq_true rfl) dX3_sellBack_11 rfl ?_
    refine e_r_iload_n (pc' := 15) dX3_sellBack_14 rfl rfl rfl ?_
    refine e_r_dup2 (pc' := 16) rfl rfl dX3_sellBack_15 rfl ?_
    obtain ⟨hb6, h⟩ := h
    refine e_r_iald (j9 := p1.toNat) (pc' := 17) rfl (Nat.le_of_ble_eq_true rfl) hb6.1 hb6.2 rfl dX3_sellBack_16 rfl ?_
    refine e_r_aload_n (pc' := 18) (by decide) dX3_sellBack_17 rfl rfl rfl ?_
    refine e_r_getr (k := 8) (q := 40) (pc' := 21) cl_3 rfl (Nat.le_of_ble_eq_true rfl) rfl rfl fl_RX3_31 rfl (Nat.le_of_ble_eq_true rfl) dX3_sellBack_18 rfl ?_
    refine e_r_iload_n (pc' := 22) dX3_sellBack_21 rfl rfl rfl ?_
    obtain ⟨hb7, h⟩ := h
    refine e_r_iald (j9 := p1.toNat) (pc' := 23) rfl (Nat.le_of_ble_eq_true rfl) hb7.1 hb7.2 rfl dX3_sellBack_22 rfl ?_
    refine e_r_iconst (pc' := 24) dX3_sellBack_23 rfl (by decide) ?_
    refine e_r_idiv (pc' := 25) (by decide) dX3_sellBack_24 rfl ?_
    refine e_r_iadd (pc' := 26) dX3_sellBack_25 rfl ?_
    obtain ⟨hb8, h⟩ := h
    refine e_r_iast (j9 := p1.toNat) (pc' := 27) rfl (Nat.le_of_ble_eq_true rfl) hb8.1 hb8.2 rfl dX3_sellBack_26 rfl ?_
    refine e_r_aload_n (pc' := 28) (by decide) dX3_sellBack_27 rfl rfl rfl ?_
    refine e_r_getr (k := 8) (q := 40) (pc' := 31) cl_3 rfl (Nat.le_of_ble_eq_true rfl) rfl rfl fl_RX3_31 rfl (Nat.le_of_ble_eq_true rfl) dX3_sellBack_28 rfl ?_
    refine e_r_iload_n (pc' := 32) dX3_sellBack_31 rfl rfl rfl ?_
    refine e_r_iconst (pc' := 33) dX3_sellBack_32 rfl (by decide) ?_
    obtain ⟨hb9, h⟩ := h
    refine e_r_iast (j9 := p1.toNat) (pc' := 34) rfl (Nat.le_of_ble_eq_true rfl) hb9.1 hb9.2 rfl dX3_sellBack_33 rfl ?_
    refine e_r_iconst (pc' := 35) dX3_sellBack_34 rfl (by decide) ?_
    exact e_r_iret (ty := .boolean) rfl (e_nZ (by decide)) dX3_sellBack_35 h
  · have h := hf5 c
    refine e_r_iconst (pc' := 9) dX3_sellBack_8 rfl (by decide) ?_
    exact e_r_iret (ty := .boolean) rfl (e_nZ (by decide)) dX3_sellBack_9 h
theorem wp_X3_sellBack_trial_0 {X : e_X} {d gn : Nat} {o : e_O} (M : e_M) (p1 : Int) (hmo : e_mn (557, gn, e_RF, M) o.2) (h : (∃ (r2 : Int) (N1 : e_M), e_E X d YX3_hasBought [.inr (.inr 43), .inl p1] (557, gn, e_RF, M) (.inl (some (.inl r2)), (557, gn, e_RF, N1)) ∧ ((¬ r2 = 0 → ((0 ≤ p1 ∧ p1 < 6) ∧ ((0 ≤ p1 ∧ p1 < 6) ∧ ((0 ≤ p1 ∧ p1 < 6) ∧ ((0 ≤ p1 ∧ p1 < 6) ∧ (o = (.inl (some (.inl 1)), (557, gn, e_RF, (e_up (e_up N1 44 p1.toNat (e_w ((N1 44 p1.toNat) + (e_w (Int.tdiv (N1 47 p1.toNat) 2))))) 47 p1.toNat (-1)))))))))) ∧ (r2 = 0 → (o = (.inl (some (.inl 0)), (557, gn, e_RF, N1))))))) : e_G X (d + 1) YX3_sellBack 0 [some (.inr (.inr 43)), some (.inl p1)] [] (557, gn, e_RF, M) o := by
  refine e_r_aload_n (pc' := 1) (by decide) dX3_sellBack_0 rfl rfl rfl ?_
  refine e_r_iload_n (pc' := 2) dX3_sellBack_1 rfl rfl rfl ?_
  obtain ⟨r2, N1, he3, h⟩ := h
  refine e_r_callV (a := 43) (av := [.inl p1]) (st := []) mqYX3_hasBought ml_RX3_125 cl_3 rfl (Nat.le_of_ble_eq_true rfl) (by simp [e_cat]) rfl rfl rfl dX3_sellBack_2 (pc' := 5) rfl he3 ⟨Nat.le_refl _, Nat.le_refl _⟩ hmo ?_
  obtain ⟨ht4, hf5⟩ := h
  refine e_r_if_ne (tgt := 10) (pc' := 8) dX3_sellBack_5 rfl rfl (fun c => ?_) (fun c => ?_)
  · have h := ht4 c
    refine e_r_aload_n (pc' := 11) (by decide) dX3_sellBack_10 rfl rfl rfl ?_
    refine e_r_getr (k := 5) (q := 44) (pc' := 14) cl_3 rfl (Nat.le_of_ble_eq_true rfl) rfl rfl fl_RX3_21 rfl (Nat.le_of_ble_eq_true rfl) dX3_sellBack_11 rfl ?_
    refine e_r_iload_n (pc' := 15) dX3_sellBack_14 rfl rfl rfl ?_
    refine e_r_dup2 (pc' := 16) rfl rfl dX3_sellBack_15 rfl ?_
    obtain ⟨hb6, h⟩ := h
    refine e_r_iald (j9 := p1.toNat) (pc' := 17) rfl (Nat.le_of_ble_eq_true rfl) hb6.1 hb6.2 rfl dX3_sellBack_16 rfl ?_
    refine e_r_aload_n (pc' := 18) (by decide) dX3_sellBack_17 rfl rfl rfl ?_
    refine e_r_getr (k := 8) (q := 47) (pc' := 21) cl_3 rfl (Nat.le_of_ble_eq_true rfl) rfl rfl fl_RX3_31 rfl (Nat.le_of_ble_eq_true rfl) dX3_sellBack_18 rfl ?_
    refine e_r_iload_n (pc' := 22) dX3_sellBack_21 rfl rfl rfl ?_
    obtain ⟨hb7, h⟩ := h
    refine e_r_iald (j9 := p1.toNat) (pc' := 23) rfl (Nat.le_of_ble_eq_true rfl) hb7.1 hb7.2 rfl dX3_sellBack_22 rfl ?_
    refine e_r_iconst (pc' := 24) dX3_sellBack_23 rfl (by decide) ?_
    refine e_r_idiv (pc' := 25) (by decide) dX3_sellBack_24 rfl ?_
    refine e_r_iadd (pc' := 26) dX3_sellBack_25 rfl ?_
    obtain ⟨hb8, h⟩ := h
    refine e_r_iast (j9 := p1.toNat) (pc' := 27) rfl (Nat.le_of_ble_eq_true rfl) hb8.1 hb8.2 rfl dX3_sellBack_26 rfl ?_
    refine e_r_aload_n (pc' := 28) (by decide) dX3_sellBack_27 rfl rfl rfl ?_
    refine e_r_getr (k := 8) (q := 47) (pc' := 31) cl_3 rfl (Nat.le_of_ble_eq_true rfl) rfl rfl fl_RX3_31 rfl (Nat.le_of_ble_eq_true rfl) dX3_sellBack_28 rfl ?_
    refine e_r_iload_n (pc' := 32) dX3_sellBack_31 rfl rfl rfl ?_
    refine e_r_iconst (pc' := 33) dX3_sellBack_32 rfl (by decide) ?_
    obtain ⟨hb9, h⟩ := h
    refine e_r_iast (j9 := p1.toNat) (pc' := 34) rfl (Nat.le_of_ble_eq_true rfl) hb9.1 hb9.2 rfl dX3_sellBack_33 rfl ?_
    refine e_r_iconst (pc' := 35) dX3_sellBack_34 rfl (by decide) ?_
    exact e_r_iret (ty := .boolean) rfl (e_nZ (by decide)) dX3_sellBack_35 h
  · have h := hf5 c
    refine e_r_iconst (pc' := 9) dX3_sellBack_8 rfl (by decide) ?_
    exact e_r_iret (ty := .boolean) rfl (e_nZ (by decide)) dX3_sellBack_9 h
theorem wp_X3_putOff_now_0 {X : e_X} {d gn : Nat} {o : e_O} (M : e_M) (p1 : Int) (hmo : e_mn (557, gn, e_RF, M) o.2) (h : (∃ (r2 : Int) (N1 : e_M), e_E X d YX3_isAhead [.inr (.inr 36), .inl p1] (557, gn, e_RF, M) (.inl (some (.inl r2)), (557, gn, e_RF, N1)) ∧ ((r2 = 0 → (o = (.inl (some (.inl 0)), (557, gn, e_RF, N1)))) ∧ (¬ (r2 = 0) → ((0 ≤ p1 ∧ p1 < 12) ∧ (((N1 42 p1.toNat) < 60 → ((0 ≤ p1 ∧ p1 < 12) ∧ ((0 ≤ p1 ∧ p1 < 12) ∧ (o = (.inl (some (.inl 1)), (557, gn, e_RF, (e_up N1 42 p1.toNat (e_w ((N1 42 p1.toNat) + 1))))))))) ∧ (¬ ((N1 42 p1.toNat) < 60) → (o = (.inl (some (.inl 0)), (557, gn, e_RF, N1)))))))))) : e_G X (d + 1) YX3_putOff 0 [some (.inr (.inr 36)), some (.inl p1)] [] (557, gn, e_RF, M) o := by
  refine e_r_aload_n (pc' := 1) (by decide) dX3_putOff_0 rfl rfl rfl ?_
  refine e_r_iload_n (pc' := 2) dX3_putOff_1 rfl rfl rfl ?_
  obtain ⟨r2, N1, he3, h⟩ := h
  refine e_r_callV (a := 36) (av := [.inl p1]) (st := []) mqYX3_isAhead ml_RX3_131 cl_3 rfl (Nat.le_of_ble_eq_true rfl) (by simp [e_cat]) rfl rfl rfl dX3_putOff_2 (pc' := 5) rfl he3 ⟨Nat.le_refl _, Nat.le_refl _⟩ hmo ?_
  obtain ⟨ht4, hf5⟩ := h
  refine e_r_if_eq (tgt := 19) (pc' := 8) dX3_putOff_5 rfl rfl (fun c => ?_) (fun c => ?_)
  · have h := ht4 c
    refine e_r_iconst (pc' := 20) dX3_putOff_19 rfl (by decide) ?_
    exact e_r_iret (ty := .boolean) rfl (e_nZ (by decide)) dX3_putOff_20 h
  · have h := hf5 c
    refine e_r_aload_n (pc' := 9) (by decide) dX3_putOff_8 rfl rfl rfl ?_
    refine e_r_getr (k := 10) (q := 42) (pc' := 12) cl_3 rfl (Nat.le_of_ble_eq_true rfl) rfl rfl fl_RX3_37 rfl (Nat.le_of_ble_eq_true rfl) dX3_putOff_9 rfl ?_
    refine e_r_iload_n (pc' := 13) dX3_putOff_12 rfl rfl rfl ?_
    obtain ⟨hb6, h⟩ := h
    refine e_r_iald (j9 := p1.toNat) (pc' := 14) rfl (Nat.le_of_ble_eq_true rfl) hb6.1 hb6.2 rfl dX3_putOff_13 rfl ?_
    refine e_r_bipush (pc' := 16) dX3_putOff_14 rfl (by decide) ?_
    obtain ⟨ht7, hf8⟩ := h
    refine e_r_icmp_lt (tgt := 21) (pc' := 19) dX3_putOff_16 rfl rfl (fun c => ?_) (fun c => ?_)
    · have h := ht7 c
      refine e_r_aload_n (pc' := 22) (by decide) dX3_putOff_21 rfl rfl rfl ?_
      refine e_r_getr (k := 10) (q := 42) (pc' := 25) cl_3 rfl (Nat.le_of_ble_eq_true rfl) rfl rfl fl_RX3_37 rfl (Nat.le_of_ble_eq_true rfl) dX3_putOff_22 rfl ?_
      refine e_r_iload_n (pc' := 26) dX3_putOff_25 rfl rfl rfl ?_
      refine e_r_dup2 (pc' := 27) rfl rfl dX3_putOff_26 rfl ?_
      obtain ⟨hb9, h⟩ := h
      refine e_r_iald (j9 := p1.toNat) (pc' := 28) rfl (Nat.le_of_ble_eq_true rfl) hb9.1 hb9.2 rfl dX3_putOff_27 rfl ?_
      refine e_r_iconst (pc' := 29) dX3_putOff_28 rfl (by decide) ?_
      refine e_r_iadd (pc' := 30) dX3_putOff_29 rfl ?_
      obtain ⟨hb10, h⟩ := h
      refine e_r_iast (j9 := p1.toNat) (pc' := 31) rfl (Nat.le_of_ble_eq_true rfl) hb10.1 hb10.2 rfl dX3_putOff_30 rfl ?_
      refine e_r_iconst (pc' := 32) dX3_putOff_31 rfl (by decide) ?_
      exact e_r_iret (ty := .boolean) rfl (e_nZ (by decide)) dX3_putOff_32 h
    · have h := hf8 c
      refine e_r_iconst (pc' := 20) dX3_putOff_19 rfl (by decide) ?_
      exact e_r_iret (ty := .boolean) rfl (e_nZ (by decide)) dX3_putOff_20 h
theorem wp_X3_putOff_trial_0 {X : e_X} {d gn : Nat} {o : e_O} (M : e_M) (p1 : Int) (hmo : e_mn (557, gn, e_RF, M) o.2) (h : (∃ (r2 : Int) (N1 : e_M), e_E X d YX3_isAhead [.inr (.inr 43), .inl p1] (557, gn, e_RF, M) (.inl (some (.inl r2)), (557, gn, e_RF, N1)) ∧ ((r2 = 0 → (o = (.inl (some (.inl 0)), (557, gn, e_RF, N1)))) ∧ (¬ (r2 = 0) → ((0 ≤ p1 ∧ p1 < 12) ∧ (((N1 49 p1.toNat) < 60 → ((0 ≤ p1 ∧ p1 < 12) ∧ ((0 ≤ p1 ∧ p1 < 12) ∧ (o = (.inl (some (.inl 1)), (557, gn, e_RF, (e_up N1 49 p1.toNat (e_w ((N1 49 p1.toNat) + 1))))))))) ∧ (¬ ((N1 49 p1.toNat) < 60) → (o = (.inl (some (.inl 0)), (557, gn, e_RF, N1)))))))))) : e_G X (d + 1) YX3_putOff 0 [some (.inr (.inr 43)), some (.inl p1)] [] (557, gn, e_RF, M) o := by
  refine e_r_aload_n (pc' := 1) (by decide) dX3_putOff_0 rfl rfl rfl ?_
  refine e_r_iload_n (pc' := 2) dX3_putOff_1 rfl rfl rfl ?_
  obtain ⟨r2, N1, he3, h⟩ := h
  refine e_r_callV (a := 43) (av := [.inl p1]) (st := []) mqYX3_isAhead ml_RX3_131 cl_3 rfl (Nat.le_of_ble_eq_true rfl) (by simp [e_cat]) rfl rfl rfl dX3_putOff_2 (pc' := 5) rfl he3 ⟨Nat.le_refl _, Nat.le_refl _⟩ hmo ?_
  obtain ⟨ht4, hf5⟩ := h
  refine e_r_if_eq (tgt := 19) (pc' := 8) dX3_putOff_5 rfl rfl (fun c => ?_) (fun c => ?_)
  · have h := ht4 c
    refine e_r_iconst (pc' := 20) dX3_putOff_19 rfl (by decide) ?_
    exact e_r_iret (ty := .boolean) rfl (e_nZ (by decide)) dX3_putOff_20 h
  · have h := hf5 c
    refine e_r_aload_n (pc' := 9) (by decide) dX3_putOff_8 rfl rfl rfl ?_
    refine e_r_getr (k := 10) (q := 49) (pc' := 12) cl_3 rfl (Nat.le_of_ble_eq_true rfl) rfl rfl fl_RX3_37 rfl (Nat.le_of_ble_eq_true rfl) dX3_putOff_9 rfl ?_
    refine e_r_iload_n (pc' := 13) dX3_putOff_12 rfl rfl rfl ?_
    obtain ⟨hb6, h⟩ := h
    refine e_r_iald (j9 := p1.toNat) (pc' := 14) rfl (Nat.le_of_ble_eq_true rfl) hb6.1 hb6.2 rfl dX3_putOff_13 rfl ?_
    refine e_r_bipush (pc' := 16) dX3_putOff_14 rfl (by decide) ?_
    obtain ⟨ht7, hf8⟩ := h
    refine e_r_icmp_lt (tgt := 21) (pc' := 19) dX3_putOff_16 rfl rfl (fun c => ?_) (fun c => ?_)
    · have h := ht7 c
      refine e_r_aload_n (pc' := 22) (by decide) dX3_putOff_21 rfl rfl rfl ?_
      refine e_r_getr (k := 10) (q := 49) (pc' := 25) cl_3 rfl (Nat.le_of_ble_eq_true rfl) rfl rfl fl_RX3_37 rfl (Nat.le_of_ble_eq_true rfl) dX3_putOff_22 rfl ?_
      refine e_r_iload_n (pc' := 26) dX3_putOff_25 rfl rfl rfl ?_
      refine e_r_dup2 (pc' := 27) rfl rfl dX3_putOff_26 rfl ?_
      obtain ⟨hb9, h⟩ := h
      refine e_r_iald (j9 := p1.toNat) (pc' := 28) rfl (Nat.le_of_ble_eq_true rfl) hb9.1 hb9.2 rfl dX3_putOff_27 rfl ?_
      refine e_r_iconst (pc' := 29) dX3_putOff_28 rfl (by decide) ?_
      refine e_r_iadd (pc' := 30) dX3_putOff_29 rfl ?_
      obtain ⟨hb10, h⟩ := h
      refine e_r_iast (j9 := p1.toNat) (pc' := 31) rfl (Nat.le_of_ble_eq_true rfl) hb10.1 hb10.2 rfl dX3_putOff_30 rfl ?_
      refine e_r_iconst (pc' := 32) dX3_putOff_31 rfl (by decide) ?_
      exact e_r_iret (ty := .boolean) rfl (e_nZ (by decide)) dX3_putOff_32 h
    · have h := hf8 c
      refine e_r_iconst (pc' := 20) dX3_putOff_19 rfl (by decide) ?_
      exact e_r_iret (ty := .boolean) rfl (e_nZ (by decide)) dX3_putOff_20 h
theorem wp_X3_passWeekByWork_now_0 {X : e_X} {d gn : Nat} {o : e_O} (M : e_M) (hmo : e_mn (557, gn, e_RF, M) o.2) (h : (((M 36 2) < 300 → (∃ N3 : e_M, e_E X d YX3_passWeek [.inr (.inr 36)] (557, gn, e_RF, M) (.inl none, (557, gn, e_RF, N3)) ∧ (o = (.inl (some (.inl 1)), (557, gn, e_RF, N3))))) ∧ (¬ ((M 36 2) < 300) → (o = (.inl (some (.inl 0)), (557, gn, e_RF, M)))))) : e_G X (d + 1) YX3_passWeekByWork 0 [some (.inr (.inr 36))] [] (557, gn, e_RF, M) o := by
  refine e_r_aload_n (pc' := 1) (by decide) dX3_passWeekByWork_0 rfl rfl rfl ?_
  refine e_r_geti (k := 2) (pc' := 4) cl_3 rfl (Nat.le_of_ble_eq_true rfl) rfl rfl fl_RX3_9 dX3_passWeekByWork_1 rfl ?_
  refine e_r_sipush (pc' := 7) dX3_passWeekByWork_4 rfl (by decide) ?_
  obtain ⟨ht1, hf2⟩ := h
  refine e_r_icmp_lt (tgt := 12) (pc' := 10) dX3_passWeekByWork_7 rfl rfl (fun c => ?_) (fun c => ?_)
  · have h := ht1 c
    refine e_r_aload_n (pc' := 13) (by decide) dX3_passWeekByWork_12 rfl rfl rfl ?_
    obtain ⟨N3, he4, h⟩ := h
    refine e_r_callV (a := 36) (av := []) (st := []) mqYX3_passWeek ml_RX3_134 cl_3 rfl (Nat.le_of_ble_eq_true rfl) (by simp [e_cat]) rfl rfl rfl dX3_passWeekByWork_13 (pc' := 16) rfl he4 ⟨Nat.le_refl _, Nat.le_refl _⟩ hmo ?_
    refine e_r_iconst (pc' := 17) dX3_passWeekByWork_16 rfl (by decide) ?_
    exact e_r_iret (ty := .boolean) rfl (e_nZ (by decide)) dX3_passWeekByWork_17 h
  · have h := hf2 c
    refine e_r_iconst (pc' := 11) dX3_passWeekByWork_10 rfl (by decide) ?_
    exact e_r_iret (ty := .boolean) rfl (e_nZ (by decide)) dX3_passWeekByWork_11 h
theorem wp_X3_passWeekByWork_trial_0 {X : e_X} {d gn : Nat} {o : e_O} (M : e_M) (hmo : e_mn (557, gn, e_RF, M) o.2) (h : (((M 43 2) < 300 → (∃ N3 : e_M, e_E X d YX3_passWeek [.inr (.inr 43)] (557, gn, e_RF, M) (.inl none, (557, gn, e_RF, N3)) ∧ (o = (.inl (some (.inl 1)), (557, gn, e_RF, N3))))) ∧ (¬ ((M 43 2) < 300) → (o = (.inl (some (.inl 0)), (557, gn, e_RF, M)))))) : e_G X (d + 1) YX3_passWeekByWork 0 [some (.inr (.inr 43))] [] (557, gn, e_RF, M) o := by
  refine e_r_aload_n (pc' := 1) (by decide) dX3_passWeekByWork_0 rfl rfl rfl ?_
  refine e_r_geti (k := 2) (pc' := 4) cl_3 rfl (Nat.le_of_ble_eq_true rfl) rfl rfl fl_RX3_9 dX3_passWeekByWork_1 rfl ?_
  refine e_r_sipush (pc' := 7) dX3_passWeekByWork_4 rfl (by decide) ?_
  obtain ⟨ht1, hf2⟩ := h
  refine e_r_icmp_lt (tgt := 12) (pc' := 10) dX3_passWeekByWork_7 rfl rfl (fun c => ?_) (fun c => ?_)
  · have h := ht1 c
    refine e_r_aload_n (pc' := 13) (by decide) dX3_passWeekByWork_12 rfl rfl rfl ?_
    obtain ⟨N3, he4, h⟩ := h
    refine e_r_callV (a := 43) (av := []) (st := []) mqYX3_passWeek ml_RX3_134 cl_3 rfl (Nat.le_of_ble_eq_true rfl) (by simp [e_cat]) rfl rfl rfl dX3_passWeekByWork_13 (pc' := 16) rfl he4 ⟨Nat.le_refl _, Nat.le_refl _⟩ hmo ?_
    refine e_r_iconst (pc' := 17) dX3_passWeekByWork_16 rfl (by decide) ?_
    exact e_r_iret (ty := .boolean) rfl (e_nZ (by decide)) dX3_passWeekByWork_17 h
  · have h := hf2 c
    refine e_r_iconst (pc' := 11) dX3_passWeekByWork_10 rfl (by decide) ?_
    exact e_r_iret (ty := .boolean) rfl (e_nZ (by decide)) dX3_passWeekByWork_11 h
theorem wp_X3_payFine_now_0 {X : e_X} {d gn : Nat} {o : e_O} (M : e_M) (p1 : Int) (h : ((0 ≤ p1 ∧ p1 < 12) ∧ ((0 ≤ (M 9 p1.toNat) ∧ (M 9 p1.toNat) < 6) ∧ ((0 ≤ p1 ∧ p1 < 12) ∧ ((0 ≤ (M 9 p1.toNat) ∧ (M 9 p1.toNat) < 6) ∧ ((0 ≤ (M 9 p1.toNat) ∧ (M 9 p1.toNat) < 6) ∧ ((0 ≤ (M 9 p1.toNat) ∧ (M 9 p1.toNat) < 6) ∧ ((0 ≤ (M 9 p1.toNat) ∧ (M 9 p1.toNat) < 6) ∧ (o = (.inl (some (.inl (min (M 37 (M 9 p1.toNat).toNat) (M 11 p1.toNat)))), (557, gn, e_RF, (e_up (e_up M 37 (M 9 p1.toNat).toNat (e_w ((M 37 (M 9 p1.toNat).toNat) - (min (M 37 (M 9 p1.toNat).toNat) (M 11 p1.toNat))))) 41 (M 9 p1.toNat).toNat (e_w (((e_up M 37 (M 9 p1.toNat).toNat (e_w ((M 37 (M 9 p1.toNat).toNat) - (min (M 37 (M 9 p1.toNat).toNat) (M 11 p1.toNat))))) 41 (M 9 p1.toNat).toNat) + (min (M 37 (M 9 p1.toNat).toNat) (M 11 p1.toNat)))))))))))))))) : e_G X (d + 1) YX3_payFine 0 [some (.inr (.inr 36)), some (.inl p1), none, none] [] (557, gn, e_RF, M) o := by
  refine e_r_aload_n (pc' := 1) (by decide) dX3_payFine_0 rfl rfl rfl ?_
  refine e_r_getr (k := 0) (q := 4) (pc' := 4) cl_3 rfl (Nat.le_of_ble_eq_true rfl) rfl rfl fl_RX3_40 rfl (Nat.le_of_ble_eq_true rfl) dX3_payFine_1 rfl ?_
  refine e_r_getr (k := 7) (q := 9) (pc' := 7) cl_8 rfl (Nat.le_of_ble_eq_true rfl) rfl rfl fl_RX3_97 rfl (Nat.le_of_ble_eq_true rfl) dX3_payFine_4 rfl ?_
  refine e_r_iload_n (pc' := 8) dX3_payFine_7 rfl rfl rfl ?_
  obtain ⟨hb1, h⟩ := h
  refine e_r_iald (j9 := p1.toNat) (pc' := 9) rfl (Nat.le_of_ble_eq_true rfl) hb1.1 hb1.2 rfl dX3_payFine_8 rfl ?_
  refine e_r_istore_n (pc' := 10) (loc' := [some (.inr (.inr 36)), some (.inl p1), some (.inl (M 9 p1.toNat)), none]) dX3_payFine_9 rfl rfl rfl rfl rfl ?_
  refine e_r_aload_n (pc' := 11) (by decide) dX3_payFine_10 rfl rfl rfl ?_
  refine e_r_getr (k := 5) (q := 37) (pc' := 14) cl_3 rfl (Nat.le_of_ble_eq_true rfl) rfl rfl fl_RX3_21 rfl (Nat.le_of_ble_eq_true rfl) dX3_payFine_11 rfl ?_
  refine e_r_iload_n (pc' := 15) dX3_payFine_14 rfl rfl rfl ?_
  obtain ⟨hb2, h⟩ := h
  refine e_r_iald (j9 := (M 9 p1.toNat).toNat) (pc' := 16) rfl (Nat.le_of_ble_eq_true rfl) hb2.1 hb2.2 rfl dX3_payFine_15 rfl ?_
  refine e_r_aload_n (pc' := 17) (by decide) dX3_payFine_16 rfl rfl rfl ?_
  refine e_r_getr (k := 0) (q := 4) (pc' := 20) cl_3 rfl (Nat.le_of_ble_eq_true rfl) rfl rfl fl_RX3_40 rfl (Nat.le_of_ble_eq_true rfl) dX3_payFine_17 rfl ?_
  refine e_r_getr (k := 9) (q := 11) (pc' := 23) cl_8 rfl (Nat.le_of_ble_eq_true rfl) rfl rfl fl_RX3_137 rfl (Nat.le_of_ble_eq_true rfl) dX3_payFine_20 rfl ?_
  refine e_r_iload_n (pc' := 24) dX3_payFine_23 rfl rfl rfl ?_
  obtain ⟨hb3, h⟩ := h
  refine e_r_iald (j9 := p1.toNat) (pc' := 25) rfl (Nat.le_of_ble_eq_true rfl) hb3.1 hb3.2 rfl dX3_payFine_24 rfl ?_
  refine e_r_min (pc' := 28) lk_RX3_87 rfl dX3_payFine_25 rfl ?_
  refine e_r_istore_n (pc' := 29) (loc' := [some (.inr (.inr 36)), some (.inl p1), some (.inl (M 9 p1.toNat)), some (.inl (min (M 37 (M 9 p1.toNat).toNat) (M 11 p1.toNat)))]) dX3_payFine_28 rfl rfl rfl rfl rfl ?_
  refine e_r_aload_n (pc' := 30) (by decide) dX3_payFine_29 rfl rfl rfl ?_
  refine e_r_getr (k := 5) (q := 37) (pc' := 33) cl_3 rfl (Nat.le_of_ble_eq_true rfl) rfl rfl fl_RX3_21 rfl (Nat.le_of_ble_eq_true rfl) dX3_payFine_30 rfl ?_
  refine e_r_iload_n (pc' := 34) dX3_payFine_33 rfl rfl rfl ?_
  refine e_r_dup2 (pc' := 35) rfl rfl dX3_payFine_34 rfl ?_
  obtain ⟨hb4, h⟩ := h
  refine e_r_iald (j9 := (M 9 p1.toNat).toNat) (pc' := 36) rfl (Nat.le_of_ble_eq_true rfl) hb4.1 hb4.2 rfl dX3_payFine_35 rfl ?_
  refine e_r_iload_n (pc' := 37) dX3_payFine_36 rfl rfl rfl ?_
  refine e_r_isub (pc' := 38) dX3_payFine_37 rfl ?_
  obtain ⟨hb5, h⟩ := h
  refine e_r_iast (j9 := (M 9 p1.toNat).toNat) (pc' := 39) rfl (Nat.le_of_ble_eq_true rfl) hb5.1 hb5.2 rfl dX3_payFine_38 rfl ?_
  refine e_r_aload_n (pc' := 40) (by decide) dX3_payFine_39 rfl rfl rfl ?_
  refine e_r_getr (k := 9) (q := 41) (pc' := 43) cl_3 rfl (Nat.le_of_ble_eq_true rfl) rfl rfl fl_RX3_34 rfl (Nat.le_of_ble_eq_true rfl) dX3_payFine_40 rfl ?_
  refine e_r_iload_n (pc' := 44) dX3_payFine_43 rfl rfl rfl ?_
  refine e_r_dup2 (pc' := 45) rfl rfl dX3_payFine_44 rfl ?_
  obtain ⟨hb6, h⟩ := h
  refine e_r_iald (j9 := (M 9 p1.toNat).toNat) (pc' := 46) rfl (Nat.le_of_ble_eq_true rfl) hb6.1 hb6.2 rfl dX3_payFine_45 rfl ?_
  refine e_r_iload_n (pc' := 47) dX3_payFine_46 rfl rfl rfl ?_
  refine e_r_iadd (pc' := 48) dX3_payFine_47 rfl ?_
  obtain ⟨hb7, h⟩ := h
  refine e_r_iast (j9 := (M 9 p1.toNat).toNat) (pc' := 49) rfl (Nat.le_of_ble_eq_true rfl) hb7.1 hb7.2 rfl dX3_payFine_48 rfl ?_
  refine e_r_iload_n (pc' := 50) dX3_payFine_49 rfl rfl rfl ?_
  exact e_r_iret (ty := .int) rfl (e_nI _) dX3_payFine_50 h
theorem wp_X3_payFine_trial_0 {X : e_X} {d gn : Nat} {o : e_O} (M : e_M) (p1 : Int) (h : ((0 ≤ p1 ∧ p1 < 12) ∧ ((0 ≤ (M 9 p1.toNat) ∧ (M 9 p1.toNat) < 6) ∧ ((0 ≤ p1 ∧ p1 < 12) ∧ ((0 ≤ (M 9 p1.toNat) ∧ (M 9 p1.toNat) < 6) ∧ ((0 ≤ (M 9 p1.toNat) ∧ (M 9 p1.toNat) < 6) ∧ ((0 ≤ (M 9 p1.toNat) ∧ (M 9 p1.toNat) < 6) ∧ ((0 ≤ (M 9 p1.toNat) ∧ (M 9 p1.toNat) < 6) ∧ (o = (.inl (some (.inl (min (M 44 (M 9 p1.toNat).toNat) (M 11 p1.toNat)))), (557, gn, e_RF, (e_up (e_up M 44 (M 9 p1.toNat).toNat (e_w ((M 44 (M 9 p1.toNat).toNat) - (min (M 44 (M 9 p1.toNat).toNat) (M 11 p1.toNat))))) 48 (M 9 p1.toNat).toNat (e_w (((e_up M 44 (M 9 p1.toNat).toNat (e_w ((M 44 (M 9 p1.toNat).toNat) - (min (M 44 (M 9 p1.toNat).toNat) (M 11 p1.toNat))))) 48 (M 9 p1.toNat).toNat) + (min (M 44 (M 9 p1.toNat).toNat) (M 11 p1.toNat)))))))))))))))) : e_G X (d + 1) YX3_payFine 0 [some (.inr (.inr 43)), some (.inl p1), none, none] [] (557, gn, e_RF, M) o := by
  refine e_r_aload_n (pc' := 1) (by decide) dX3_payFine_0 rfl rfl rfl ?_
  refine e_r_getr (k := 0) (q := 4) (pc' := 4) cl_3 rfl (Nat.le_of_ble_eq_true rfl) rfl rfl fl_RX3_40 rfl (Nat.le_of_ble_eq_true rfl) dX3_payFine_1 rfl ?_
  refine e_r_getr (k := 7) (q := 9) (pc' := 7) cl_8 rfl (Nat.le_of_ble_eq_true rfl) rfl rfl fl_RX3_97 rfl (Nat.le_of_ble_eq_true rfl) dX3_payFine_4 rfl ?_
  refine e_r_iload_n (pc' := 8) dX3_payFine_7 rfl rfl rfl ?_
  obtain ⟨hb1, h⟩ := h
  refine e_r_iald (j9 := p1.toNat) (pc' := 9) rfl (Nat.le_of_ble_eq_true rfl) hb1.1 hb1.2 rfl dX3_payFine_8 rfl ?_
  refine e_r_istore_n (pc' := 10) (loc' := [some (.inr (.inr 43)), some (.inl p1), some (.inl (M 9 p1.toNat)), none]) dX3_payFine_9 rfl rfl rfl rfl rfl ?_
  refine e_r_aload_n (pc' := 11) (by decide) dX3_payFine_10 rfl rfl rfl ?_
  refine e_r_getr (k := 5) (q := 44) (pc' := 14) cl_3 rfl (Nat.le_of_ble_eq_true rfl) rfl rfl fl_RX3_21 rfl (Nat.le_of_ble_eq_true rfl) dX3_payFine_11 rfl ?_
  refine e_r_iload_n (pc' := 15) dX3_payFine_14 rfl rfl rfl ?_
  obtain ⟨hb2, h⟩ := h
  refine e_r_iald (j9 := (M 9 p1.toNat).toNat) (pc' := 16) rfl (Nat.le_of_ble_eq_true rfl) hb2.1 hb2.2 rfl dX3_payFine_15 rfl ?_
  refine e_r_aload_n (pc' := 17) (by decide) dX3_payFine_16 rfl rfl rfl ?_
  refine e_r_getr (k := 0) (q := 4) (pc' := 20) cl_3 rfl (Nat.le_of_ble_eq_true rfl) rfl rfl fl_RX3_40 rfl (Nat.le_of_ble_eq_true rfl) dX3_payFine_17 rfl ?_
  refine e_r_getr (k := 9) (q := 11) (pc' := 23) cl_8 rfl (Nat.le_of_ble_eq_true rfl) rfl rfl fl_RX3_137 rfl (Nat.le_of_ble_eq_true rfl) dX3_payFine_20 rfl ?_
  refine e_r_iload_n (pc' := 24) dX3_payFine_23 rfl rfl rfl ?_
  obtain ⟨hb3, h⟩ := h
  refine e_r_iald (j9 := p1.toNat) (pc' := 25) rfl (Nat.le_of_ble_eq_true rfl) hb3.1 hb3.2 rfl dX3_payFine_24 rfl ?_
  refine e_r_min (pc' := 28) lk_RX3_87 rfl dX3_payFine_25 rfl ?_
  refine e_r_istore_n (pc' := 29) (loc' := [some (.inr (.inr 43)), some (.inl p1), some (.inl (M 9 p1.toNat)), some (.inl (min (M 44 (M 9 p1.toNat).toNat) (M 11 p1.toNat)))]) dX3_payFine_28 rfl rfl rfl rfl rfl ?_
  refine e_r_aload_n (pc' := 30) (by decide) dX3_payFine_29 rfl rfl rfl ?_
  refine e_r_getr (k := 5) (q := 44) (pc' := 33) cl_3 rfl (Nat.le_of_ble_eq_true rfl) rfl rfl fl_RX3_21 rfl (Nat.le_of_ble_eq_true rfl) dX3_payFine_30 rfl ?_
  refine e_r_iload_n (pc' := 34) dX3_payFine_33 rfl rfl rfl ?_
  refine e_r_dup2 (pc' := 35) rfl rfl dX3_payFine_34 rfl ?_
  obtain ⟨hb4, h⟩ := h
  refine e_r_iald (j9 := (M 9 p1.toNat).toNat) (pc' := 36) rfl (Nat.le_of_ble_eq_true rfl) hb4.1 hb4.2 rfl dX3_payFine_35 rfl ?_
  refine e_r_iload_n (pc' := 37) dX3_payFine_36 rfl rfl rfl ?_
  refine e_r_isub (pc' := 38) dX3_payFine_37 rfl ?_
  obtain ⟨hb5, h⟩ := h
  refine e_r_iast (j9 := (M 9 p1.toNat).toNat) (pc' := 39) rfl (Nat.le_of_ble_eq_true rfl) hb5.1 hb5.2 rfl dX3_payFine_38 rfl ?_
  refine e_r_aload_n (pc' := 40) (by decide) dX3_payFine_39 rfl rfl rfl ?_
  refine e_r_getr (k := 9) (q := 48) (pc' := 43) cl_3 rfl (Nat.le_of_ble_eq_true rfl) rfl rfl fl_RX3_34 rfl (Nat.le_of_ble_eq_true rfl) dX3_payFine_40 rfl ?_
  refine e_r_iload_n (pc' := 44) dX3_payFine_43 rfl rfl rfl ?_
  refine e_r_dup2 (pc' := 45) rfl rfl dX3_payFine_44 rfl ?_
  obtain ⟨hb6, h⟩ := h
  refine e_r_iald (j9 := (M 9 p1.toNat).toNat) (pc' := 46) rfl (Nat.le_of_ble_eq_true rfl) hb6.1 hb6.2 rfl dX3_payFine_45 rfl ?_
  refine e_r_iload_n (pc' := 47) dX3_payFine_46 rfl rfl rfl ?_
  refine e_r_iadd (pc' := 48) dX3_payFine_47 rfl ?_
  obtain ⟨hb7, h⟩ := h
  refine e_r_iast (j9 := (M 9 p1.toNat).toNat) (pc' := 49) rfl (Nat.le_of_ble_eq_true rfl) hb7.1 hb7.2 rfl dX3_payFine_48 rfl ?_
  refine e_r_iload_n (pc' := 50) dX3_payFine_49 rfl rfl rfl ?_
  exact e_r_iret (ty := .int) rfl (e_nI _) dX3_payFine_50 h
theorem wp_X3_passWeek_now_0 {X : e_X} {d gn : Nat} {o : e_O} (M : e_M) (hmo : e_mn (557, gn, e_RF, M) o.2) (h : (∃ (r2 : Int) (N1 : e_M), e_E X d YX3_stayingBits [.inr (.inr 36)] (557, gn, e_RF, M) (.inl (some (.inl r2)), (557, gn, e_RF, N1)) ∧ (∃ (r5 : Int) (N4 : e_M), e_E X d YX3_leftBy [.inr (.inr 36), .inl r2] (557, gn, e_RF, N1) (.inl (some (.inl r5)), (557, gn, e_RF, N4)) ∧ (∃ (r8 : Int) (N7 : e_M), e_E X d YX3_worthOf [.inr (.inr 36), .inl r5] (557, gn, e_RF, N4) (.inl (some (.inl r8)), (557, gn, e_RF, N7)) ∧ e_G X (d + 1) YX3_passWeek 23 [some (.inr (.inr 36)), some (.inl 0)] [] (557, gn, e_RF, (e_up N7 36 3 (e_w ((M 36 3) + r8)))) o)))) : e_G X (d + 1) YX3_passWeek 0 [some (.inr (.inr 36)), none] [] (557, gn, e_RF, M) o := by
  refine e_r_aload_n (pc' := 1) (by decide) dX3_passWeek_0 rfl rfl rfl ?_
  refine e_r_dup (pc' := 2) rfl dX3_passWeek_1 rfl ?_
  refine e_r_geti (k := 3) (pc' := 5) cl_3 rfl (Nat.le_of_ble_eq_true rfl) rfl rfl fl_RX3_15 dX3_passWeek_2 rfl ?_
  refine e_r_aload_n (pc' := 6) (by decide) dX3_passWeek_5 rfl rfl rfl ?_
  refine e_r_aload_n (pc' := 7) (by decide) dX3_passWeek_6 rfl rfl rfl ?_
  refine e_r_aload_n (pc' := 8) (by decide) dX3_passWeek_7 rfl rfl rfl ?_
  obtain ⟨r2, N1, he3, h⟩ := h
  refine e_r_callV (a := 36) (av := []) (st := [.inr (.inr 36), .inr (.inr 36), .inl (M 36 3), .inr (.inr 36)]) mqYX3_stayingBits ml_RX3_140 cl_3 rfl (Nat.le_of_ble_eq_true rfl) (by simp [e_cat]) rfl rfl rfl dX3_passWeek_8 (pc' := 11) rfl he3 ⟨Nat.le_refl _, Nat.le_refl _⟩ hmo ?_
  obtain ⟨r5, N4, he6, h⟩ := h
  refine e_r_callV (a := 36) (av := [.inl r2]) (st := [.inr (.inr 36), .inl (M 36 3), .inr (.inr 36)]) mqYX3_leftBy ml_RX3_143 cl_3 rfl (Nat.le_of_ble_eq_true rfl) (by simp [e_cat]) rfl rfl rfl dX3_passWeek_11 (pc' := 14) rfl he6 ⟨Nat.le_refl _, Nat.le_refl _⟩ hmo ?_
  obtain ⟨r8, N7, he9, h⟩ := h
  refine e_r_callV (a := 36) (av := [.inl r5]) (st := [.inl (M 36 3), .inr (.inr 36)]) mqYX3_worthOf ml_RX3_146 cl_3 rfl (Nat.le_of_ble_eq_true rfl) (by simp [e_cat]) rfl rfl rfl dX3_passWeek_14 (pc' := 17) rfl he9 ⟨Nat.le_refl _, Nat.le_refl _⟩ hmo ?_
  refine e_r_iadd (pc' := 18) dX3_passWeek_17 rfl ?_
  refine e_r_puti (k := 3) (pc' := 21) cl_3 rfl (Nat.le_of_ble_eq_true rfl) rfl rfl fl_RX3_15 rfl (by decide +kernel) dX3_passWeek_18 rfl ?_
  refine e_r_iconst (pc' := 22) dX3_passWeek_21 rfl (by decide) ?_
  refine e_r_istore_n (pc' := 23) (loc' := [some (.inr (.inr 36)), some (.inl 0)]) dX3_passWeek_22 rfl rfl rfl rfl rfl ?_
  exact h
theorem wp_X3_passWeek_now_23 {X : e_X} {d gn : Nat} {o : e_O} (M : e_M) (v1 : Int) (hmo : e_mn (557, gn, e_RF, M) o.2) (h : (((M 4 2) ≤ v1 → e_G X (d + 1) YX3_passWeek 87 [some (.inr (.inr 36)), some (.inl 0)] [] (557, gn, e_RF, M) o) ∧ (¬ ((M 4 2) ≤ v1) → (∃ (r4 : Int) (N3 : e_M), e_E X d YX3_fallsNow [.inr (.inr 36), .inl v1] (557, gn, e_RF, M) (.inl (some (.inl r4)), (557, gn, e_RF, N3)) ∧ ((r4 = 0 → e_G X (d + 1) YX3_passWeek 23 [some (.inr (.inr 36)), some (.inl (e_w (v1 + 1)))] [] (557, gn, e_RF, N3) o) ∧ (¬ (r4 = 0) → ((0 ≤ v1 ∧ v1 < 12) ∧ (∃ (r10 : Int) (N9 : e_M), e_E X d YX3_hasBought [.inr (.inr 36), .inl (N3 9 v1.toNat)] (557, gn, e_RF, N3) (.inl (some (.inl r10)), (557, gn, e_RF, N9)) ∧ ((r10 = 0 → e_G X (d + 1) YX3_passWeek 23 [some (.inr (.inr 36)), some (.inl (e_w (v1 + 1)))] [] (557, gn, e_RF, (e_up N9 36 4 (e_or (N9 36 4) (e_shl 1 v1)))) o) ∧ (¬ (r10 = 0) → (∃ (r15 : Int) (N14 : e_M), e_E X d YX3_payFine [.inr (.inr 36), .inl v1] (557, gn, e_RF, N9) (.inl (some (.inl r15)), (557, gn, e_RF, N14)) ∧ e_G X (d + 1) YX3_passWeek 23 [some (.inr (.inr 36)), some (.inl (e_w (v1 + 1)))] [] (557, gn, e_RF, N14) o))))))))))) : e_G X (d + 1) YX3_passWeek 23 [some (.inr (.inr 36)), some (.inl v1)] [] (557, gn, e_RF, M) o := by
  refine e_r_iload_n (pc' := 24) dX3_passWeek_23 rfl rfl rfl ?_
  refine e_r_aload_n (pc' := 25) (by decide) dX3_passWeek_24 rfl rfl rfl ?_
  refine e_r_getr (k := 0) (q := 4) (pc' := 28) cl_3 rfl (Nat.le_of_ble_eq_true rfl) rfl rfl fl_RX3_40 rfl (Nat.le_of_ble_eq_true rfl) dX3_passWeek_25 rfl ?_
  refine e_r_geti (k := 2) (pc' := 31) cl_8 rfl (Nat.le_of_ble_eq_true rfl) rfl rfl fl_RX3_94 dX3_passWeek_28 rfl ?_
  obtain ⟨ht1, hf2⟩ := h
  refine e_r_icmp_ge (tgt := 85) (pc' := 34) dX3_passWeek_31 rfl rfl (fun c => ?_) (fun c => ?_)
  · have h := ht1 c
    refine e_r_iconst (pc' := 86) dX3_passWeek_85 rfl (by decide) ?_
    refine e_r_istore_n (pc' := 87) (loc' := [some (.inr (.inr 36)), some (.inl 0)]) dX3_passWeek_86 rfl rfl rfl rfl rfl ?_
    exact h
  · have h := hf2 c
    refine e_r_aload_n (pc' := 35) (by decide) dX3_passWeek_34 rfl rfl rfl ?_
    refine e_r_iload_n (pc' := 36) dX3_passWeek_35 rfl rfl rfl ?_
    obtain ⟨r4, N3, he5, h⟩ := h
    refine e_r_callV (a := 36) (av := [.inl v1]) (st := []) mqYX3_fallsNow ml_RX3_100 cl_3 rfl (Nat.le_of_ble_eq_true rfl) (by simp [e_cat]) rfl rfl rfl dX3_passWeek_36 (pc' := 39) rfl he5 ⟨Nat.le_refl _, Nat.le_refl _⟩ hmo ?_
    obtain ⟨ht6, hf7⟩ := h
    refine e_r_if_eq (tgt := 79) (pc' := 42) dX3_passWeek_39 rfl rfl (fun c => ?_) (fun c => ?_)
    · have h := ht6 c
      refine e_r_iinc (pc' := 82) (loc' := [some (.inr (.inr 36)), some (.inl (e_w (v1 + 1)))]) dX3_passWeek_79 rfl rfl rfl rfl rfl ?_
      refine e_r_goto (pc' := 23) dX3_passWeek_82 rfl ?_
      exact h
    · have h := hf7 c
      refine e_r_aload_n (pc' := 43) (by decide) dX3_passWeek_42 rfl rfl rfl ?_
      refine e_r_aload_n (pc' := 44) (by decide) dX3_passWeek_43 rfl rfl rfl ?_
      refine e_r_getr (k := 0) (q := 4) (pc' := 47) cl_3 rfl (Nat.le_of_ble_eq_true rfl) rfl rfl fl_RX3_40 rfl (Nat.le_of_ble_eq_true rfl) dX3_passWeek_44 rfl ?_
      refine e_r_getr (k := 7) (q := 9) (pc' := 50) cl_8 rfl (Nat.le_of_ble_eq_true rfl) rfl rfl fl_RX3_97 rfl (Nat.le_of_ble_eq_true rfl) dX3_passWeek_47 rfl ?_
      refine e_r_iload_n (pc' := 51) dX3_passWeek_50 rfl rfl rfl ?_
      obtain ⟨hb8, h⟩ := h
      refine e_r_iald (j9 := v1.toNat) (pc' := 52) rfl (Nat.le_of_ble_eq_true rfl) hb8.1 hb8.2 rfl dX3_passWeek_51 rfl ?_
      obtain ⟨r10, N9, he11, h⟩ := h
      refine e_r_callV (a := 36) (av := [.inl (N3 9 v1.toNat)]) (st := []) mqYX3_hasBought ml_RX3_125 cl_3 rfl (Nat.le_of_ble_eq_true rfl) (by simp [e_cat]) rfl rfl rfl dX3_passWeek_52 (pc' := 55) rfl he11 ⟨Nat.le_refl _, Nat.le_refl _⟩ hmo ?_
      obtain ⟨ht12, hf13⟩ := h
      refine e_r_if_eq (tgt := 67) (pc' := 58) dX3_passWeek_55 rfl rfl (fun c => ?_) (fun c => ?_)
      · have h := ht12 c
        refine e_r_aload_n (pc' := 68) (by decide) dX3_passWeek_67 rfl rfl rfl ?_
        refine e_r_dup (pc' := 69) rfl dX3_passWeek_68 rfl ?_
        refine e_r_geti (k := 4) (pc' := 72) cl_3 rfl (Nat.le_of_ble_eq_true rfl) rfl rfl fl_RX3_18 dX3_passWeek_69 rfl ?_
        refine e_r_iconst (pc' := 73) dX3_passWeek_72 rfl (by decide) ?_
        refine e_r_iload_n (pc' := 74) dX3_passWeek_73 rfl rfl rfl ?_
        refine e_r_ishl (pc' := 75) dX3_passWeek_74 rfl ?_
        refine e_r_ior (pc' := 76) dX3_passWeek_75 rfl ?_
        refine e_r_puti (k := 4) (pc' := 79) cl_3 rfl (Nat.le_of_ble_eq_true rfl) rfl rfl fl_RX3_18 rfl (by decide +kernel) dX3_passWeek_76 rfl ?_
        refine e_r_iinc (pc' := 82) (loc' := [some (.inr (.inr 36)), some (.inl (e_w (v1 + 1)))]) dX3_passWeek_79 rfl rfl rfl rfl rfl ?_
        refine e_r_goto (pc' := 23) dX3_passWeek_82 rfl ?_
        exact h
      · have h := hf13 c
        refine e_r_aload_n (pc' := 59) (by decide) dX3_passWeek_58 rfl rfl rfl ?_
        refine e_r_iload_n (pc' := 60) dX3_passWeek_59 rfl rfl rfl ?_
        obtain ⟨r15, N14, he16, h⟩ := h
        refine e_r_callV (a := 36) (av := [.inl v1]) (st := []) mqYX3_payFine ml_RX3_149 cl_3 rfl (Nat.le_of_ble_eq_true rfl) (by simp [e_cat]) rfl rfl rfl dX3_passWeek_60 (pc' := 63) rfl he16 ⟨Nat.le_refl _, Nat.le_refl _⟩ hmo ?_
        refine e_r_pop (pc' := 64) rfl dX3_passWeek_63 rfl ?_
        refine e_r_goto (pc' := 79) dX3_passWeek_64 rfl ?_
        refine e_r_iinc (pc' := 82) (loc' := [some (.inr (.inr 36)), some (.inl (e_w (v1 + 1)))]) dX3_passWeek_79 rfl rfl rfl rfl rfl ?_
        refine e_r_goto (pc' := 23) dX3_passWeek_82 rfl ?_
        exact h
theorem wp_X3_passWeek_now_87 {X : e_X} {d gn : Nat} {o : e_O} (M : e_M) (v1 : Int) (hmo : e_mn (557, gn, e_RF, M) o.2) (h : (((M 4 0) ≤ v1 → (o = (.inl none, (557, gn, e_RF, (e_up M 36 2 (e_w ((M 36 2) + 1))))))) ∧ (¬ ((M 4 0) ≤ v1) → (∃ (r4 : Int) (N3 : e_M), e_E X d YX3_hasBought [.inr (.inr 36), .inl v1] (557, gn, e_RF, M) (.inl (some (.inl r4)), (557, gn, e_RF, N3)) ∧ ((r4 = 0 → ((0 ≤ v1 ∧ v1 < 6) ∧ ((0 ≤ v1 ∧ v1 < 6) ∧ ((0 ≤ v1 ∧ v1 < 6) ∧ ((0 ≤ v1 ∧ v1 < 6) ∧ ((0 ≤ v1 ∧ v1 < 6) ∧ e_G X (d + 1) YX3_passWeek 87 [some (.inr (.inr 36)), some (.inl (e_w (v1 + 1)))] [] (557, gn, e_RF, (e_up (e_up N3 38 v1.toNat (e_w ((N3 38 v1.toNat) + 7))) 37 v1.toNat (min 999 (e_w (((e_up N3 38 v1.toNat (e_w ((N3 38 v1.toNat) + 7))) 37 v1.toNat) + ((e_up N3 38 v1.toNat (e_w ((N3 38 v1.toNat) + 7))) 6 v1.toNat)))))) o)))))) ∧ (¬ (r4 = 0) → ((0 ≤ v1 ∧ v1 < 6) ∧ ((0 ≤ v1 ∧ v1 < 6) ∧ ((0 ≤ v1 ∧ v1 < 6) ∧ ((0 ≤ v1 ∧ v1 < 6) ∧ ((0 ≤ v1 ∧ v1 < 6) ∧ e_G X (d + 1) YX3_passWeek 87 [some (.inr (.inr 36)), some (.inl (e_w (v1 + 1)))] [] (557, gn, e_RF, (e_up (e_up (e_up N3 38 v1.toNat (e_w ((N3 38 v1.toNat) + 6))) 39 v1.toNat (e_w (((e_up N3 38 v1.toNat (e_w ((N3 38 v1.toNat) + 6))) 39 v1.toNat) + 1))) 40 v1.toNat (-1))) o))))))))))) : e_G X (d + 1) YX3_passWeek 87 [some (.inr (.inr 36)), some (.inl v1)] [] (557, gn, e_RF, M) o := by
  refine e_r_iload_n (pc' := 88) dX3_passWeek_87 rfl rfl rfl ?_
  refine e_r_aload_n (pc' := 89) (by decide) dX3_passWeek_88 rfl rfl rfl ?_
  refine e_r_getr (k := 0) (q := 4) (pc' := 92) cl_3 rfl (Nat.le_of_ble_eq_true rfl) rfl rfl fl_RX3_40 rfl (Nat.le_of_ble_eq_true rfl) dX3_passWeek_89 rfl ?_
  refine e_r_geti (k := 0) (pc' := 95) cl_8 rfl (Nat.le_of_ble_eq_true rfl) rfl rfl fl_RX3_58 dX3_passWeek_92 rfl ?_
  obtain ⟨ht1, hf2⟩ := h
  refine e_r_icmp_ge (tgt := 182) (pc' := 98) dX3_passWeek_95 rfl rfl (fun c => ?_) (fun c => ?_)
  · have h := ht1 c
    refine e_r_aload_n (pc' := 183) (by decide) dX3_passWeek_182 rfl rfl rfl ?_
    refine e_r_dup (pc' := 184) rfl dX3_passWeek_183 rfl ?_
    refine e_r_geti (k := 2) (pc' := 187) cl_3 rfl (Nat.le_of_ble_eq_true rfl) rfl rfl fl_RX3_9 dX3_passWeek_184 rfl ?_
    refine e_r_iconst (pc' := 188) dX3_passWeek_187 rfl (by decide) ?_
    refine e_r_iadd (pc' := 189) dX3_passWeek_188 rfl ?_
    refine e_r_puti (k := 2) (pc' := 192) cl_3 rfl (Nat.le_of_ble_eq_true rfl) rfl rfl fl_RX3_9 rfl (by decide +kernel) dX3_passWeek_189 rfl ?_
    exact e_r_vret rfl dX3_passWeek_192 h
  · have h := hf2 c
    refine e_r_aload_n (pc' := 99) (by decide) dX3_passWeek_98 rfl rfl rfl ?_
    refine e_r_iload_n (pc' := 100) dX3_passWeek_99 rfl rfl rfl ?_
    obtain ⟨r4, N3, he5, h⟩ := h
    refine e_r_callV (a := 36) (av := [.inl v1]) (st := []) mqYX3_hasBought ml_RX3_125 cl_3 rfl (Nat.le_of_ble_eq_true rfl) (by simp [e_cat]) rfl rfl rfl dX3_passWeek_100 (pc' := 103) rfl he5 ⟨Nat.le_refl _, Nat.le_refl _⟩ hmo ?_
    obtain ⟨ht6, hf7⟩ := h
    refine e_r_if_eq (tgt := 137) (pc' := 106) dX3_passWeek_103 rfl rfl (fun c => ?_) (fun c => ?_)
    · have h := ht6 c
      refine e_r_aload_n (pc' := 138) (by decide) dX3_passWeek_137 rfl rfl rfl ?_
      refine e_r_getr (k := 6) (q := 38) (pc' := 141) cl_3 rfl (Nat.le_of_ble_eq_true rfl) rfl rfl fl_RX3_25 rfl (Nat.le_of_ble_eq_true rfl) dX3_passWeek_138 rfl ?_
      refine e_r_iload_n (pc' := 142) dX3_passWeek_141 rfl rfl rfl ?_
      refine e_r_dup2 (pc' := 143) rfl rfl dX3_passWeek_142 rfl ?_
      obtain ⟨hb8, h⟩ := h
      refine e_r_iald (j9 := v1.toNat) (pc' := 144) rfl (Nat.le_of_ble_eq_true rfl) hb8.1 hb8.2 rfl dX3_passWeek_143 rfl ?_
      refine e_r_bipush (pc' := 146) dX3_passWeek_144 rfl (by decide) ?_
      refine e_r_iadd (pc' := 147) dX3_passWeek_146 rfl ?_
      obtain ⟨hb9, h⟩ := h
      refine e_r_iast (j9 := v1.toNat) (pc' := 148) rfl (Nat.le_of_ble_eq_true rfl) hb9.1 hb9.2 rfl dX3_passWeek_147 rfl ?_
      refine e_r_aload_n (pc' := 149) (by decide) dX3_passWeek_148 rfl rfl rfl ?_
      refine e_r_getr (k := 5) (q := 37) (pc' := 152) cl_3 rfl (Nat.le_of_ble_eq_true rfl) rfl rfl fl_RX3_21 rfl (Nat.le_of_ble_eq_true rfl) dX3_passWeek_149 rfl ?_
      refine e_r_iload_n (pc' := 153) dX3_passWeek_152 rfl rfl rfl ?_
      refine e_r_sipush (pc' := 156) dX3_passWeek_153 rfl (by decide) ?_
      refine e_r_aload_n (pc' := 157) (by decide) dX3_passWeek_156 rfl rfl rfl ?_
      refine e_r_getr (k := 5) (q := 37) (pc' := 160) cl_3 rfl (Nat.le_of_ble_eq_true rfl) rfl rfl fl_RX3_21 rfl (Nat.le_of_ble_eq_true rfl) dX3_passWeek_157 rfl ?_
      refine e_r_iload_n (pc' := 161) dX3_passWeek_160 rfl rfl rfl ?_
      obtain ⟨hb10, h⟩ := h
      refine e_r_iald (j9 := v1.toNat) (pc' := 162) rfl (Nat.le_of_ble_eq_true rfl) hb10.1 hb10.2 rfl dX3_passWeek_161 rfl ?_
      refine e_r_aload_n (pc' := 163) (by decide) dX3_passWeek_162 rfl rfl rfl ?_
      refine e_r_getr (k := 0) (q := 4) (pc' := 166) cl_3 rfl (Nat.le_of_ble_eq_true rfl) rfl rfl fl_RX3_40 rfl (Nat.le_of_ble_eq_true rfl) dX3_passWeek_163 rfl ?_
      refine e_r_getr (k := 4) (q := 6) (pc' := 169) cl_8 rfl (Nat.le_of_ble_eq_true rfl) rfl rfl fl_RX3_113 rfl (Nat.le_of_ble_eq_true rfl) dX3_passWeek_166 rfl ?_
      refine e_r_iload_n (pc' := 170) dX3_passWeek_169 rfl rfl rfl ?_
      obtain ⟨hb11, h⟩ := h
      refine e_r_iald (j9 := v1.toNat) (pc' := 171) rfl (Nat.le_of_ble_eq_true rfl) hb11.1 hb11.2 rfl dX3_passWeek_170 rfl ?_
      refine e_r_iadd (pc' := 172) dX3_passWeek_171 rfl ?_
      refine e_r_min (pc' := 175) lk_RX3_87 rfl dX3_passWeek_172 rfl ?_
      obtain ⟨hb12, h⟩ := h
      refine e_r_iast (j9 := v1.toNat) (pc' := 176) rfl (Nat.le_of_ble_eq_true rfl) hb12.1 hb12.2 rfl dX3_passWeek_175 rfl ?_
      refine e_r_iinc (pc' := 179) (loc' := [some (.inr (.inr 36)), some (.inl (e_w (v1 + 1)))]) dX3_passWeek_176 rfl rfl rfl rfl rfl ?_
      refine e_r_goto (pc' := 87) dX3_passWeek_179 rfl ?_
      exact h
    · have h := hf7 c
      refine e_r_aload_n (pc' := 107) (by decide) dX3_passWeek_106 rfl rfl rfl ?_
      refine e_r_getr (k := 6) (q := 38) (pc' := 110) cl_3 rfl (Nat.le_of_ble_eq_true rfl) rfl rfl fl_RX3_25 rfl (Nat.le_of_ble_eq_true rfl) dX3_passWeek_107 rfl ?_
      refine e_r_iload_n (pc' := 111) dX3_passWeek_110 rfl rfl rfl ?_
      refine e_r_dup2 (pc' := 112) rfl rfl dX3_passWeek_111 rfl ?_
      obtain ⟨hb13, h⟩ := h
      refine e_r_iald (j9 := v1.toNat) (pc' := 113) rfl (Nat.le_of_ble_eq_true rfl) hb13.1 hb13.2 rfl dX3_passWeek_112 rfl ?_
      refine e_r_bipush (pc' := 115) dX3_passWeek_113 rfl (by decide) ?_
      refine e_r_iadd (pc' := 116) dX3_passWeek_115 rfl ?_
      obtain ⟨hb14, h⟩ := h
      refine e_r_iast (j9 := v1.toNat) (pc' := 117) rfl (Nat.le_of_ble_eq_true rfl) hb14.1 hb14.2 rfl dX3_passWeek_116 rfl ?_
      refine e_r_aload_n (pc' := 118) (by decide) dX3_passWeek_117 rfl rfl rfl ?_
      refine e_r_getr (k := 7) (q := 39) (pc' := 121) cl_3 rfl (Nat.le_of_ble_eq_true rfl) rfl rfl fl_RX3_28 rfl (Nat.le_of_ble_eq_true rfl) dX3_passWeek_118 rfl ?_
      refine e_r_iload_n (pc' := 122) dX3_passWeek_121 rfl rfl rfl ?_
      refine e_r_dup2 (pc' := 123) rfl rfl dX3_passWeek_122 rfl ?_
      obtain ⟨hb15, h⟩ := h
      refine e_r_iald (j9 := v1.toNat) (pc' := 124) rfl (Nat.le_of_ble_eq_true rfl) hb15.1 hb15.2 rfl dX3_passWeek_123 rfl ?_
      refine e_r_iconst (pc' := 125) dX3_passWeek_124 rfl (by decide) ?_
      refine e_r_iadd (pc' := 126) dX3_passWeek_125 rfl ?_
      obtain ⟨hb16, h⟩ := h
      refine e_r_iast (j9 := v1.toNat) (pc' := 127) rfl (Nat.le_of_ble_eq_true rfl) hb16.1 hb16.2 rfl dX3_passWeek_126 rfl ?_
      refine e_r_aload_n (pc' := 128) (by decide) dX3_passWeek_127 rfl rfl rfl ?_
      refine e_r_getr (k := 8) (q := 40) (pc' := 131) cl_3 rfl (Nat.le_of_ble_eq_true rfl) rfl rfl fl_RX3_31 rfl (Nat.le_of_ble_eq_true rfl) dX3_passWeek_128 rfl ?_
      refine e_r_iload_n (pc' := 132) dX3_passWeek_131 rfl rfl rfl ?_
      refine e_r_iconst (pc' := 133) dX3_passWeek_132 rfl (by decide) ?_
      obtain ⟨hb17, h⟩ := h
      refine e_r_iast (j9 := v1.toNat) (pc' := 134) rfl (Nat.le_of_ble_eq_true rfl) hb17.1 hb17.2 rfl dX3_passWeek_133 rfl ?_
      refine e_r_goto (pc' := 176) dX3_passWeek_134 rfl ?_
      refine e_r_iinc (pc' := 179) (loc' := [some (.inr (.inr 36)), some (.inl (e_w (v1 + 1)))]) dX3_passWeek_176 rfl rfl rfl rfl rfl ?_
      refine e_r_goto (pc' := 87) dX3_passWeek_179 rfl ?_
      exact h
theorem wp_X3_passWeek_trial_0 {X : e_X} {d gn : Nat} {o : e_O} (M : e_M) (hmo : e_mn (557, gn, e_RF, M) o.2) (h : (∃ (r2 : Int) (N1 : e_M), e_E X d YX3_stayingBits [.inr (.inr 43)] (557, gn, e_RF, M) (.inl (some (.inl r2)), (557, gn, e_RF, N1)) ∧ (∃ (r5 : Int) (N4 : e_M), e_E X d YX3_leftBy [.inr (.inr 43), .inl r2] (557, gn, e_RF, N1) (.inl (some (.inl r5)), (557, gn, e_RF, N4)) ∧ (∃ (r8 : Int) (N7 : e_M), e_E X d YX3_worthOf [.inr (.inr 43), .inl r5] (557, gn, e_RF, N4) (.inl (some (.inl r8)), (557, gn, e_RF, N7)) ∧ e_G X (d + 1) YX3_passWeek 23 [some (.inr (.inr 43)), some (.inl 0)] [] (557, gn, e_RF, (e_up N7 43 3 (e_w ((M 43 3) + r8)))) o)))) : e_G X (d + 1) YX3_passWeek 0 [some (.inr (.inr 43)), none] [] (557, gn, e_RF, M) o := by
  refine e_r_aload_n (pc' := 1) (by decide) dX3_passWeek_0 rfl rfl rfl ?_
  refine e_r_dup (pc' := 2) rfl dX3_passWeek_1 rfl ?_
  refine e_r_geti (k := 3) (pc' := 5) cl_3 rfl (Nat.le_of_ble_eq_true rfl) rfl rfl fl_RX3_15 dX3_passWeek_2 rfl ?_
  refine e_r_aload_n (pc' := 6) (by decide) dX3_passWeek_5 rfl rfl rfl ?_
  refine e_r_aload_n (pc' := 7) (by decide) dX3_passWeek_6 rfl rfl rfl ?_
  refine e_r_aload_n (pc' := 8) (by decide) dX3_passWeek_7 rfl rfl rfl ?_
  obtain ⟨r2, N1, he3, h⟩ := h
  refine e_r_callV (a := 43) (av := []) (st := [.inr (.inr 43), .inr (.inr 43), .inl (M 43 3), .inr (.inr 43)]) mqYX3_stayingBits ml_RX3_140 cl_3 rfl (Nat.le_of_ble_eq_true rfl) (by simp [e_cat]) rfl rfl rfl dX3_passWeek_8 (pc' := 11) rfl he3 ⟨Nat.le_refl _, Nat.le_refl _⟩ hmo ?_
  obtain ⟨r5, N4, he6, h⟩ := h
  refine e_r_callV (a := 43) (av := [.inl r2]) (st := [.inr (.inr 43), .inl (M 43 3), .inr (.inr 43)]) mqYX3_leftBy ml_RX3_143 cl_3 rfl (Nat.le_of_ble_eq_true rfl) (by simp [e_cat]) rfl rfl rfl dX3_passWeek_11 (pc' := 14) rfl he6 ⟨Nat.le_refl _, Nat.le_refl _⟩ hmo ?_
  obtain ⟨r8, N7, he9, h⟩ := h
  refine e_r_callV (a := 43) (av := [.inl r5]) (st := [.inl (M 43 3), .inr (.inr 43)]) mqYX3_worthOf ml_RX3_146 cl_3 rfl (Nat.le_of_ble_eq_true rfl) (by simp [e_cat]) rfl rfl rfl dX3_passWeek_14 (pc' := 17) rfl he9 ⟨Nat.le_refl _, Nat.le_refl _⟩ hmo ?_
  refine e_r_iadd (pc' := 18) dX3_passWeek_17 rfl ?_
  refine e_r_puti (k := 3) (pc' := 21) cl_3 rfl (Nat.le_of_ble_eq_true rfl) rfl rfl fl_RX3_15 rfl (by decide +kernel) dX3_passWeek_18 rfl ?_
  refine e_r_iconst (pc' := 22) dX3_passWeek_21 rfl (by decide) ?_
  refine e_r_istore_n (pc' := 23) (loc' := [some (.inr (.inr 43)), some (.inl 0)]) dX3_passWeek_22 rfl rfl rfl rfl rfl ?_
  exact h
theorem wp_X3_passWeek_trial_23 {X : e_X} {d gn : Nat} {o : e_O} (M : e_M) (v1 : Int) (hmo : e_mn (557, gn, e_RF, M) o.2) (h : (((M 4 2) ≤ v1 → e_G X (d + 1) YX3_passWeek 87 [some (.inr (.inr 43)), some (.inl 0)] [] (557, gn, e_RF, M) o) ∧ (¬ ((M 4 2) ≤ v1) → (∃ (r4 : Int) (N3 : e_M), e_E X d YX3_fallsNow [.inr (.inr 43), .inl v1] (557, gn, e_RF, M) (.inl (some (.inl r4)), (557, gn, e_RF, N3)) ∧ ((r4 = 0 → e_G X (d + 1) YX3_passWeek 23 [some (.inr (.inr 43)), some (.inl (e_w (v1 + 1)))] [] (557, gn, e_RF, N3) o) ∧ (¬ (r4 = 0) → ((0 ≤ v1 ∧ v1 < 12) ∧ (∃ (r10 : Int) (N9 : e_M), e_E X d YX3_hasBought [.inr (.inr 43), .inl (N3 9 v1.toNat)] (557, gn, e_RF, N3) (.inl (some (.inl r10)), (557, gn, e_RF, N9)) ∧ ((r10 = 0 → e_G X (d + 1) YX3_passWeek 23 [some (.inr (.inr 43)), some (.inl (e_w (v1 + 1)))] [] (557, gn, e_RF, (e_up N9 43 4 (e_or (N9 43 4) (e_shl 1 v1)))) o) ∧ (¬ (r10 = 0) → (∃ (r15 : Int) (N14 : e_M), e_E X d YX3_payFine [.inr (.inr 43), .inl v1] (557, gn, e_RF, N9) (.inl (some (.inl r15)), (557, gn, e_RF, N14)) ∧ e_G X (d + 1) YX3_passWeek 23 [some (.inr (.inr 43)), some (.inl (e_w (v1 + 1)))] [] (557, gn, e_RF, N14) o))))))))))) : e_G X (d + 1) YX3_passWeek 23 [some (.inr (.inr 43)), some (.inl v1)] [] (557, gn, e_RF, M) o := by
  refine e_r_iload_n (pc' := 24) dX3_passWeek_23 rfl rfl rfl ?_
  refine e_r_aload_n (pc' := 25) (by decide) dX3_passWeek_24 rfl rfl rfl ?_
  refine e_r_getr (k := 0) (q := 4) (pc' := 28) cl_3 rfl (Nat.le_of_ble_eq_true rfl) rfl rfl fl_RX3_40 rfl (Nat.le_of_ble_eq_true rfl) dX3_passWeek_25 rfl ?_
  refine e_r_geti (k := 2) (pc' := 31) cl_8 rfl (Nat.le_of_ble_eq_true rfl) rfl rfl fl_RX3_94 dX3_passWeek_28 rfl ?_
  obtain ⟨ht1, hf2⟩ := h
  refine e_r_icmp_ge (tgt := 85) (pc' := 34) dX3_passWeek_31 rfl rfl (fun c => ?_) (fun c => ?_)
  · have h := ht1 c
    refine e_r_iconst (pc' := 86) dX3_passWeek_85 rfl (by decide) ?_
    refine e_r_istore_n (pc' := 87) (loc' := [some (.inr (.inr 43)), some (.inl 0)]) dX3_passWeek_86 rfl rfl rfl rfl rfl ?_
    exact h
  · have h := hf2 c
    refine e_r_aload_n (pc' := 35) (by decide) dX3_passWeek_34 rfl rfl rfl ?_
    refine e_r_iload_n (pc' := 36) dX3_passWeek_35 rfl rfl rfl ?_
    obtain ⟨r4, N3, he5, h⟩ := h
    refine e_r_callV (a := 43) (av := [.inl v1]) (st := []) mqYX3_fallsNow ml_RX3_100 cl_3 rfl (Nat.le_of_ble_eq_true rfl) (by simp [e_cat]) rfl rfl rfl dX3_passWeek_36 (pc' := 39) rfl he5 ⟨Nat.le_refl _, Nat.le_refl _⟩ hmo ?_
    obtain ⟨ht6, hf7⟩ := h
    refine e_r_if_eq (tgt := 79) (pc' := 42) dX3_passWeek_39 rfl rfl (fun c => ?_) (fun c => ?_)
    · have h := ht6 c
      refine e_r_iinc (pc' := 82) (loc' := [some (.inr (.inr 43)), some (.inl (e_w (v1 + 1)))]) dX3_passWeek_79 rfl rfl rfl rfl rfl ?_
      refine e_r_goto (pc' := 23) dX3_passWeek_82 rfl ?_
      exact h
    · have h := hf7 c
      refine e_r_aload_n (pc' := 43) (by decide) dX3_passWeek_42 rfl rfl rfl ?_
      refine e_r_aload_n (pc' := 44) (by decide) dX3_passWeek_43 rfl rfl rfl ?_
      refine e_r_getr (k := 0) (q := 4) (pc' := 47) cl_3 rfl (Nat.le_of_ble_eq_true rfl) rfl rfl fl_RX3_40 rfl (Nat.le_of_ble_eq_true rfl) dX3_passWeek_44 rfl ?_
      refine e_r_getr (k := 7) (q := 9) (pc' := 50) cl_8 rfl (Nat.le_of_ble_eq_true rfl) rfl rfl fl_RX3_97 rfl (Nat.le_of_ble_eq_true rfl) dX3_passWeek_47 rfl ?_
      refine e_r_iload_n (pc' := 51) dX3_passWeek_50 rfl rfl rfl ?_
      obtain ⟨hb8, h⟩ := h
      refine e_r_iald (j9 := v1.toNat) (pc' := 52) rfl (Nat.le_of_ble_eq_true rfl) hb8.1 hb8.2 rfl dX3_passWeek_51 rfl ?_
      obtain ⟨r10, N9, he11, h⟩ := h
      refine e_r_callV (a := 43) (av := [.inl (N3 9 v1.toNat)]) (st := []) mqYX3_hasBought ml_RX3_125 cl_3 rfl (Nat.le_of_ble_eq_true rfl) (by simp [e_cat]) rfl rfl rfl dX3_passWeek_52 (pc' := 55) rfl he11 ⟨Nat.le_refl _, Nat.le_refl _⟩ hmo ?_
      obtain ⟨ht12, hf13⟩ := h
      refine e_r_if_eq (tgt := 67) (pc' := 58) dX3_passWeek_55 rfl rfl (fun c => ?_) (fun c => ?_)
      · have h := ht12 c
        refine e_r_aload_n (pc' := 68) (by decide) dX3_passWeek_67 rfl rfl rfl ?_
        refine e_r_dup (pc' := 69) rfl dX3_passWeek_68 rfl ?_
        refine e_r_geti (k := 4) (pc' := 72) cl_3 rfl (Nat.le_of_ble_eq_true rfl) rfl rfl fl_RX3_18 dX3_passWeek_69 rfl ?_
        refine e_r_iconst (pc' := 73) dX3_passWeek_72 rfl (by decide) ?_
        refine e_r_iload_n (pc' := 74) dX3_passWeek_73 rfl rfl rfl ?_
        refine e_r_ishl (pc' := 75) dX3_passWeek_74 rfl ?_
        refine e_r_ior (pc' := 76) dX3_passWeek_75 rfl ?_
        refine e_r_puti (k := 4) (pc' := 79) cl_3 rfl (Nat.le_of_ble_eq_true rfl) rfl rfl fl_RX3_18 rfl (by decide +kernel) dX3_passWeek_76 rfl ?_
        refine e_r_iinc (pc' := 82) (loc' := [some (.inr (.inr 43)), some (.inl (e_w (v1 + 1)))]) dX3_passWeek_79 rfl rfl rfl rfl rfl ?_
        refine e_r_goto (pc' := 23) dX3_passWeek_82 rfl ?_
        exact h
      · have h := hf13 c
        refine e_r_aload_n (pc' := 59) (by decide) dX3_passWeek_58 rfl rfl rfl ?_
        refine e_r_iload_n (pc' := 60) dX3_passWeek_59 rfl rfl rfl ?_
        obtain ⟨r15, N14, he16, h⟩ := h
        refine e_r_callV (a := 43) (av := [.inl v1]) (st := []) mqYX3_payFine ml_RX3_149 cl_3 rfl (Nat.le_of_ble_eq_true rfl) (by simp [e_cat]) rfl rfl rfl dX3_passWeek_60 (pc' := 63) rfl he16 ⟨Nat.le_refl _, Nat.le_refl _⟩ hmo ?_
        refine e_r_pop (pc' := 64) rfl dX3_passWeek_63 rfl ?_
        refine e_r_goto (pc' := 79) dX3_passWeek_64 rfl ?_
        refine e_r_iinc (pc' := 82) (loc' := [some (.inr (.inr 43)), some (.inl (e_w (v1 + 1)))]) dX3_passWeek_79 rfl rfl rfl rfl rfl ?_
        refine e_r_goto (pc' := 23) dX3_passWeek_82 rfl ?_
        exact h
theorem wp_X3_passWeek_trial_87 {X : e_X} {d gn : Nat} {o : e_O} (M : e_M) (v1 : Int) (hmo : e_mn (557, gn, e_RF, M) o.2) (h : (((M 4 0) ≤ v1 → (o = (.inl none, (557, gn, e_RF, (e_up M 43 2 (e_w ((M 43 2) + 1))))))) ∧ (¬ ((M 4 0) ≤ v1) → (∃ (r4 : Int) (N3 : e_M), e_E X d YX3_hasBought [.inr (.inr 43), .inl v1] (557, gn, e_RF, M) (.inl (some (.inl r4)), (557, gn, e_RF, N3)) ∧ ((r4 = 0 → ((0 ≤ v1 ∧ v1 < 6) ∧ ((0 ≤ v1 ∧ v1 < 6) ∧ ((0 ≤ v1 ∧ v1 < 6) ∧ ((0 ≤ v1 ∧ v1 < 6) ∧ ((0 ≤ v1 ∧ v1 < 6) ∧ e_G X (d + 1) YX3_passWeek 87 [some (.inr (.inr 43)), some (.inl (e_w (v1 + 1)))] [] (557, gn, e_RF, (e_up (e_up N3 45 v1.toNat (e_w ((N3 45 v1.toNat) + 7))) 44 v1.toNat (min 999 (e_w (((e_up N3 45 v1.toNat (e_w ((N3 45 v1.toNat) + 7))) 44 v1.toNat) + ((e_up N3 45 v1.toNat (e_w ((N3 45 v1.toNat) + 7))) 6 v1.toNat)))))) o)))))) ∧ (¬ (r4 = 0) → ((0 ≤ v1 ∧ v1 < 6) ∧ ((0 ≤ v1 ∧ v1 < 6) ∧ ((0 ≤ v1 ∧ v1 < 6) ∧ ((0 ≤ v1 ∧ v1 < 6) ∧ ((0 ≤ v1 ∧ v1 < 6) ∧ e_G X (d + 1) YX3_passWeek 87 [some (.inr (.inr 43)), some (.inl (e_w (v1 + 1)))] [] (557, gn, e_RF, (e_up (e_up (e_up N3 45 v1.toNat (e_w ((N3 45 v1.toNat) + 6))) 46 v1.toNat (e_w (((e_up N3 45 v1.toNat (e_w ((N3 45 v1.toNat) + 6))) 46 v1.toNat) + 1))) 47 v1.toNat (-1))) o))))))))))) : e_G X (d + 1) YX3_passWeek 87 [some (.inr (.inr 43)), some (.inl v1)] [] (557, gn, e_RF, M) o := by
  refine e_r_iload_n (pc' := 88) dX3_passWeek_87 rfl rfl rfl ?_
  refine e_r_aload_n (pc' := 89) (by decide) dX3_passWeek_88 rfl rfl rfl ?_
  refine e_r_getr (k := 0) (q := 4) (pc' := 92) cl_3 rfl (Nat.le_of_ble_eq_true rfl) rfl rfl fl_RX3_40 rfl (Nat.le_of_ble_eq_true rfl) dX3_passWeek_89 rfl ?_
  refine e_r_geti (k := 0) (pc' := 95) cl_8 rfl (Nat.le_of_ble_eq_true rfl) rfl rfl fl_RX3_58 dX3_passWeek_92 rfl ?_
  obtain ⟨ht1, hf2⟩ := h
  refine e_r_icmp_ge (tgt := 182) (pc' := 98) dX3_passWeek_95 rfl rfl (fun c => ?_) (fun c => ?_)
  · have h := ht1 c
    refine e_r_aload_n (pc' := 183) (by decide) dX3_passWeek_182 rfl rfl rfl ?_
    refine e_r_dup (pc' := 184) rfl dX3_passWeek_183 rfl ?_
    refine e_r_geti (k := 2) (pc' := 187) cl_3 rfl (Nat.le_of_ble_eq_true rfl) rfl rfl fl_RX3_9 dX3_passWeek_184 rfl ?_
    refine e_r_iconst (pc' := 188) dX3_passWeek_187 rfl (by decide) ?_
    refine e_r_iadd (pc' := 189) dX3_passWeek_188 rfl ?_
    refine e_r_puti (k := 2) (pc' := 192) cl_3 rfl (Nat.le_of_ble_eq_true rfl) rfl rfl fl_RX3_9 rfl (by decide +kernel) dX3_passWeek_189 rfl ?_
    exact e_r_vret rfl dX3_passWeek_192 h
  · have h := hf2 c
    refine e_r_aload_n (pc' := 99) (by decide) dX3_passWeek_98 rfl rfl rfl ?_
    refine e_r_iload_n (pc' := 100) dX3_passWeek_99 rfl rfl rfl ?_
    obtain ⟨r4, N3, he5, h⟩ := h
    refine e_r_callV (a := 43) (av := [.inl v1]) (st := []) mqYX3_hasBought ml_RX3_125 cl_3 rfl (Nat.le_of_ble_eq_true rfl) (by simp [e_cat]) rfl rfl rfl dX3_passWeek_100 (pc' := 103) rfl he5 ⟨Nat.le_refl _, Nat.le_refl _⟩ hmo ?_
    obtain ⟨ht6, hf7⟩ := h
    refine e_r_if_eq (tgt := 137) (pc' := 106) dX3_passWeek_103 rfl rfl (fun c => ?_) (fun c => ?_)
    · have h := ht6 c
      refine e_r_aload_n (pc' := 138) (by decide) dX3_passWeek_137 rfl rfl rfl ?_
      refine e_r_getr (k := 6) (q := 45) (pc' := 141) cl_3 rfl (Nat.le_of_ble_eq_true rfl) rfl rfl fl_RX3_25 rfl (Nat.le_of_ble_eq_true rfl) dX3_passWeek_138 rfl ?_
      refine e_r_iload_n (pc' := 142) dX3_passWeek_141 rfl rfl rfl ?_
      refine e_r_dup2 (pc' := 143) rfl rfl dX3_passWeek_142 rfl ?_
      obtain ⟨hb8, h⟩ := h
      refine e_r_iald (j9 := v1.toNat) (pc' := 144) rfl (Nat.le_of_ble_eq_true rfl) hb8.1 hb8.2 rfl dX3_passWeek_143 rfl ?_
      refine e_r_bipush (pc' := 146) dX3_passWeek_144 rfl (by decide) ?_
      refine e_r_iadd (pc' := 147) dX3_passWeek_146 rfl ?_
      obtain ⟨hb9, h⟩ := h
      refine e_r_iast (j9 := v1.toNat) (pc' := 148) rfl (Nat.le_of_ble_eq_true rfl) hb9.1 hb9.2 rfl dX3_passWeek_147 rfl ?_
      refine e_r_aload_n (pc' := 149) (by decide) dX3_passWeek_148 rfl rfl rfl ?_
      refine e_r_getr (k := 5) (q := 44) (pc' := 152) cl_3 rfl (Nat.le_of_ble_eq_true rfl) rfl rfl fl_RX3_21 rfl (Nat.le_of_ble_eq_true rfl) dX3_passWeek_149 rfl ?_
      refine e_r_iload_n (pc' := 153) dX3_passWeek_152 rfl rfl rfl ?_
      refine e_r_sipush (pc' := 156) dX3_passWeek_153 rfl (by decide) ?_
      refine e_r_aload_n (pc' := 157) (by decide) dX3_passWeek_156 rfl rfl rfl ?_
      refine e_r_getr (k := 5) (q := 44) (pc' := 160) cl_3 rfl (Nat.le_of_ble_eq_true rfl) rfl rfl fl_RX3_21 rfl (Nat.le_of_ble_eq_true rfl) dX3_passWeek_157 rfl ?_
      refine e_r_iload_n (pc' := 161) dX3_passWeek_160 rfl rfl rfl ?_
      obtain ⟨hb10, h⟩ := h
      refine e_r_iald (j9 := v1.toNat) (pc' := 162) rfl (Nat.le_of_ble_eq_true rfl) hb10.1 hb10.2 rfl dX3_passWeek_161 rfl ?_
      refine e_r_aload_n (pc' := 163) (by decide) dX3_passWeek_162 rfl rfl rfl ?_
      refine e_r_getr (k := 0) (q := 4) (pc' := 166) cl_3 rfl (Nat.le_of_ble_eq_true rfl) rfl rfl fl_RX3_40 rfl (Nat.le_of_ble_eq_true rfl) dX3_passWeek_163 rfl ?_
      refine e_r_getr (k := 4) (q := 6) (pc' := 169) cl_8 rfl (Nat.le_of_ble_eq_true rfl) rfl rfl fl_RX3_113 rfl (Nat.le_of_ble_eq_true rfl) dX3_passWeek_166 rfl ?_
      refine e_r_iload_n (pc' := 170) dX3_passWeek_169 rfl rfl rfl ?_
      obtain ⟨hb11, h⟩ := h
      refine e_r_iald (j9 := v1.toNat) (pc' := 171) rfl (Nat.le_of_ble_eq_true rfl) hb11.1 hb11.2 rfl dX3_passWeek_170 rfl ?_
      refine e_r_iadd (pc' := 172) dX3_passWeek_171 rfl ?_
      refine e_r_min (pc' := 175) lk_RX3_87 rfl dX3_passWeek_172 rfl ?_
      obtain ⟨hb12, h⟩ := h
      refine e_r_iast (j9 := v1.toNat) (pc' := 176) rfl (Nat.le_of_ble_eq_true rfl) hb12.1 hb12.2 rfl dX3_passWeek_175 rfl ?_
      refine e_r_iinc (pc' := 179) (loc' := [some (.inr (.inr 43)), some (.inl (e_w (v1 + 1)))]) dX3_passWeek_176 rfl rfl rfl rfl rfl ?_
      refine e_r_goto (pc' := 87) dX3_passWeek_179 rfl ?_
      exact h
    · have h := hf7 c
      refine e_r_aload_n (pc' := 107) (by decide) dX3_passWeek_106 rfl rfl rfl ?_
      refine e_r_getr (k := 6) (q := 45) (pc' := 110) cl_3 rfl (Nat.le_of_ble_eq_true rfl) rfl rfl fl_RX3_25 rfl (Nat.le_of_ble_eq_true rfl) dX3_passWeek_107 rfl ?_
      refine e_r_iload_n (pc' := 111) dX3_passWeek_110 rfl rfl rfl ?_
      refine e_r_dup2 (pc' := 112) rfl rfl dX3_passWeek_111 rfl ?_
      obtain ⟨hb13, h⟩ := h
      refine e_r_iald (j9 := v1.toNat) (pc' := 113) rfl (Nat.le_of_ble_eq_true rfl) hb13.1 hb13.2 rfl dX3_passWeek_112 rfl ?_
      refine e_r_bipush (pc' := 115) dX3_passWeek_113 rfl (by decide) ?_
      refine e_r_iadd (pc' := 116) dX3_passWeek_115 rfl ?_
      obtain ⟨hb14, h⟩ := h
      refine e_r_iast (j9 := v1.toNat) (pc' := 117) rfl (Nat.le_of_ble_eq_true rfl) hb14.1 hb14.2 rfl dX3_passWeek_116 rfl ?_
      refine e_r_aload_n (pc' := 118) (by decide) dX3_passWeek_117 rfl rfl rfl ?_
      refine e_r_getr (k := 7) (q := 46) (pc' := 121) cl_3 rfl (Nat.le_of_ble_eq_true rfl) rfl rfl fl_RX3_28 rfl (Nat.le_of_ble_eq_true rfl) dX3_passWeek_118 rfl ?_
      refine e_r_iload_n (pc' := 122) dX3_passWeek_121 rfl rfl rfl ?_
      refine e_r_dup2 (pc' := 123) rfl rfl dX3_passWeek_122 rfl ?_
      obtain ⟨hb15, h⟩ := h
      refine e_r_iald (j9 := v1.toNat) (pc' := 124) rfl (Nat.le_of_ble_eq_true rfl) hb15.1 hb15.2 rfl dX3_passWeek_123 rfl ?_
      refine e_r_iconst (pc' := 125) dX3_passWeek_124 rfl (by decide) ?_
      refine e_r_iadd (pc' := 126) dX3_passWeek_125 rfl ?_
      obtain ⟨hb16, h⟩ := h
      refine e_r_iast (j9 := v1.toNat) (pc' := 127) rfl (Nat.le_of_ble_eq_true rfl) hb16.1 hb16.2 rfl dX3_passWeek_126 rfl ?_
      refine e_r_aload_n (pc' := 128) (by decide) dX3_passWeek_127 rfl rfl rfl ?_
      refine e_r_getr (k := 8) (q := 47) (pc' := 131) cl_3 rfl (Nat.le_of_ble_eq_true rfl) rfl rfl fl_RX3_31 rfl (Nat.le_of_ble_eq_true rfl) dX3_passWeek_128 rfl ?_
      refine e_r_iload_n (pc' := 132) dX3_passWeek_131 rfl rfl rfl ?_
      refine e_r_iconst (pc' := 133) dX3_passWeek_132 rfl (by decide) ?_
      obtain ⟨hb17, h⟩ := h
      refine e_r_iast (j9 := v1.toNat) (pc' := 134) rfl (Nat.le_of_ble_eq_true rfl) hb17.1 hb17.2 rfl dX3_passWeek_133 rfl ?_
      refine e_r_goto (pc' := 176) dX3_passWeek_134 rfl ?_
      refine e_r_iinc (pc' := 179) (loc' := [some (.inr (.inr 43)), some (.inl (e_w (v1 + 1)))]) dX3_passWeek_176 rfl rfl rfl rfl rfl ?_
      refine e_r_goto (pc' := 87) dX3_passWeek_179 rfl ?_
      exact h
theorem wp_X3_worthOf_now_0 {X : e_X} {d gn : Nat} {o : e_O} (M : e_M) (p1 : Int) (h : e_G X d YX3_worthOf 4 [some (.inr (.inr 36)), some (.inl p1), some (.inl 0), some (.inl 0)] [] (557, gn, e_RF, M) o) : e_G X d YX3_worthOf 0 [some (.inr (.inr 36)), some (.inl p1), none, none] [] (557, gn, e_RF, M) o := by
  refine e_r_iconst (pc' := 1) dX3_worthOf_0 rfl (by decide) ?_
  refine e_r_istore_n (pc' := 2) (loc' := [some (.inr (.inr 36)), some (.inl p1), some (.inl 0), none]) dX3_worthOf_1 rfl rfl rfl rfl rfl ?_
  refine e_r_iconst (pc' := 3) dX3_worthOf_2 rfl (by decide) ?_
  refine e_r_istore_n (pc' := 4) (loc' := [some (.inr (.inr 36)), some (.inl p1), some (.inl 0), some (.inl 0)]) dX3_worthOf_3 rfl rfl rfl rfl rfl ?_
  exact h
theorem wp_X3_worthOf_now_4 {X : e_X} {d gn : Nat} {o : e_O} (M : e_M) (p1 v2 v3 : Int) (h : (((M 4 1) ≤ v3 → (o = (.inl (some (.inl v2)), (557, gn, e_RF, M)))) ∧ (¬ ((M 4 1) ≤ v3) → (((e_and (e_shr p1 v3) 1) = 0 → e_G X d YX3_worthOf 4 [some (.inr (.inr 36)), some (.inl p1), some (.inl v2), some (.inl (e_w (v3 + 1)))] [] (557, gn, e_RF, M) o) ∧ (¬ ((e_and (e_shr p1 v3) 1) = 0) → ((0 ≤ v3 ∧ v3 < 6) ∧ e_G X d YX3_worthOf 4 [some (.inr (.inr 36)), some (.inl p1), some (.inl (e_w (v2 + (M 8 v3.toNat)))), some (.inl (e_w (v3 + 1)))] [] (557, gn, e_RF, M) o)))))) : e_G X d YX3_worthOf 4 [some (.inr (.inr 36)), some (.inl p1), some (.inl v2), some (.inl v3)] [] (557, gn, e_RF, M) o := by
  refine e_r_iload_n (pc' := 5) dX3_worthOf_4 rfl rfl rfl ?_
  refine e_r_aload_n (pc' := 6) (by decide) dX3_worthOf_5 rfl rfl rfl ?_
  refine e_r_getr (k := 0) (q := 4) (pc' := 9) cl_3 rfl (Nat.le_of_ble_eq_true rfl) rfl rfl fl_RX3_40 rfl (Nat.le_of_ble_eq_true rfl) dX3_worthOf_6 rfl ?_
  refine e_r_geti (k := 1) (pc' := 12) cl_8 rfl (Nat.le_of_ble_eq_true rfl) rfl rfl fl_RX3_69 dX3_worthOf_9 rfl ?_
  obtain ⟨ht1, hf2⟩ := h
  refine e_r_icmp_ge (tgt := 41) (pc' := 15) dX3_worthOf_12 rfl rfl (fun c => ?_) (fun c => ?_)
  · have h := ht1 c
    refine e_r_iload_n (pc' := 42) dX3_worthOf_41 rfl rfl rfl ?_
    exact e_r_iret (ty := .int) rfl (e_nI _) dX3_worthOf_42 h
  · have h := hf2 c
    refine e_r_iload_n (pc' := 16) dX3_worthOf_15 rfl rfl rfl ?_
    refine e_r_iload_n (pc' := 17) dX3_worthOf_16 rfl rfl rfl ?_
    refine e_r_ishr (pc' := 18) dX3_worthOf_17 rfl ?_
    refine e_r_iconst (pc' := 19) dX3_worthOf_18 rfl (by decide) ?_
    refine e_r_iand (pc' := 20) dX3_worthOf_19 rfl ?_
    obtain ⟨ht3, hf4⟩ := h
    refine e_r_if_eq (tgt := 35) (pc' := 23) dX3_worthOf_20 rfl rfl (fun c => ?_) (fun c => ?_)
    · have h := ht3 c
      refine e_r_iinc (pc' := 38) (loc' := [some (.inr (.inr 36)), some (.inl p1), some (.inl v2), some (.inl (e_w (v3 + 1)))]) dX3_worthOf_35 rfl rfl rfl rfl rfl ?_
      refine e_r_goto (pc' := 4) dX3_worthOf_38 rfl ?_
      exact h
    · have h := hf4 c
      refine e_r_iload_n (pc' := 24) dX3_worthOf_23 rfl rfl rfl ?_
      refine e_r_aload_n (pc' := 25) (by decide) dX3_worthOf_24 rfl rfl rfl ?_
      refine e_r_getr (k := 0) (q := 4) (pc' := 28) cl_3 rfl (Nat.le_of_ble_eq_true rfl) rfl rfl fl_RX3_40 rfl (Nat.le_of_ble_eq_true rfl) dX3_worthOf_25 rfl ?_
      refine e_r_getr (k := 6) (q := 8) (pc' := 31) cl_8 rfl (Nat.le_of_ble_eq_true rfl) rfl rfl fl_RX3_152 rfl (Nat.le_of_ble_eq_true rfl) dX3_worthOf_28 rfl ?_
      refine e_r_iload_n (pc' := 32) dX3_worthOf_31 rfl rfl rfl ?_
      obtain ⟨hb5, h⟩ := h
      refine e_r_iald (j9 := v3.toNat) (pc' := 33) rfl (Nat.le_of_ble_eq_true rfl) hb5.1 hb5.2 rfl dX3_worthOf_32 rfl ?_
      refine e_r_iadd (pc' := 34) dX3_worthOf_33 rfl ?_
      refine e_r_istore_n (pc' := 35) (loc' := [some (.inr (.inr 36)), some (.inl p1), some (.inl (e_w (v2 + (M 8 v3.toNat)))), some (.inl v3)]) dX3_worthOf_34 rfl rfl rfl rfl rfl ?_
      refine e_r_iinc (pc' := 38) (loc' := [some (.inr (.inr 36)), some (.inl p1), some (.inl (e_w (v2 + (M 8 v3.toNat)))), some (.inl (e_w (v3 + 1)))]) dX3_worthOf_35 rfl rfl rfl rfl rfl ?_
      refine e_r_goto (pc' := 4) dX3_worthOf_38 rfl ?_
      exact h
theorem wp_X3_worthOf_trial_0 {X : e_X} {d gn : Nat} {o : e_O} (M : e_M) (p1 : Int) (h : e_G X d YX3_worthOf 4 [some (.inr (.inr 43)), some (.inl p1), some (.inl 0), some (.inl 0)] [] (557, gn, e_RF, M) o) : e_G X d YX3_worthOf 0 [some (.inr (.inr 43)), some (.inl p1), none, none] [] (557, gn, e_RF, M) o := by
  refine e_r_iconst (pc' := 1) dX3_worthOf_0 rfl (by decide) ?_
  refine e_r_istore_n (pc' := 2) (loc' := [some (.inr (.inr 43)), some (.inl p1), some (.inl 0), none]) dX3_worthOf_1 rfl rfl rfl rfl rfl ?_
  refine e_r_iconst (pc' := 3) dX3_worthOf_2 rfl (by decide) ?_
  refine e_r_istore_n (pc' := 4) (loc' := [some (.inr (.inr 43)), some (.inl p1), some (.inl 0), some (.inl 0)]) dX3_worthOf_3 rfl rfl rfl rfl rfl ?_
  exact h
theorem wp_X3_worthOf_trial_4 {X : e_X} {d gn : Nat} {o : e_O} (M : e_M) (p1 v2 v3 : Int) (h : (((M 4 1) ≤ v3 → (o = (.inl (some (.inl v2)), (557, gn, e_RF, M)))) ∧ (¬ ((M 4 1) ≤ v3) → (((e_and (e_shr p1 v3) 1) = 0 → e_G X d YX3_worthOf 4 [some (.inr (.inr 43)), some (.inl p1), some (.inl v2), some (.inl (e_w (v3 + 1)))] [] (557, gn, e_RF, M) o) ∧ (¬ ((e_and (e_shr p1 v3) 1) = 0) → ((0 ≤ v3 ∧ v3 < 6) ∧ e_G X d YX3_worthOf 4 [some (.inr (.inr 43)), some (.inl p1), some (.inl (e_w (v2 + (M 8 v3.toNat)))), some (.inl (e_w (v3 + 1)))] [] (557, gn, e_RF, M) o)))))) : e_G X d YX3_worthOf 4 [some (.inr (.inr 43)), some (.inl p1), some (.inl v2), some (.inl v3)] [] (557, gn, e_RF, M) o := by
  refine e_r_iload_n (pc' := 5) dX3_worthOf_4 rfl rfl rfl ?_
  refine e_r_aload_n (pc' := 6) (by decide) dX3_worthOf_5 rfl rfl rfl ?_
  refine e_r_getr (k := 0) (q := 4) (pc' := 9) cl_3 rfl (Nat.le_of_ble_eq_true rfl) rfl rfl fl_RX3_40 rfl (Nat.le_of_ble_eq_true rfl) dX3_worthOf_6 rfl ?_
  refine e_r_geti (k := 1) (pc' := 12) cl_8 rfl (Nat.le_of_ble_eq_true rfl) rfl rfl fl_RX3_69 dX3_worthOf_9 rfl ?_
  obtain ⟨ht1, hf2⟩ := h
  refine e_r_icmp_ge (tgt := 41) (pc' := 15) dX3_worthOf_12 rfl rfl (fun c => ?_) (fun c => ?_)
  · have h := ht1 c
    refine e_r_iload_n (pc' := 42) dX3_worthOf_41 rfl rfl rfl ?_
    exact e_r_iret (ty := .int) rfl (e_nI _) dX3_worthOf_42 h
  · have h := hf2 c
    refine e_r_iload_n (pc' := 16) dX3_worthOf_15 rfl rfl rfl ?_
    refine e_r_iload_n (pc' := 17) dX3_worthOf_16 rfl rfl rfl ?_
    refine e_r_ishr (pc' := 18) dX3_worthOf_17 rfl ?_
    refine e_r_iconst (pc' := 19) dX3_worthOf_18 rfl (by decide) ?_
    refine e_r_iand (pc' := 20) dX3_worthOf_19 rfl ?_
    obtain ⟨ht3, hf4⟩ := h
    refine e_r_if_eq (tgt := 35) (pc' := 23) dX3_worthOf_20 rfl rfl (fun c => ?_) (fun c => ?_)
    · have h := ht3 c
      refine e_r_iinc (pc' := 38) (loc' := [some (.inr (.inr 43)), some (.inl p1), some (.inl v2), some (.inl (e_w (v3 + 1)))]) dX3_worthOf_35 rfl rfl rfl rfl rfl ?_
      refine e_r_goto (pc' := 4) dX3_worthOf_38 rfl ?_
      exact h
    · have h := hf4 c
      refine e_r_iload_n (pc' := 24) dX3_worthOf_23 rfl rfl rfl ?_
      refine e_r_aload_n (pc' := 25) (by decide) dX3_worthOf_24 rfl rfl rfl ?_
      refine e_r_getr (k := 0) (q := 4) (pc' := 28) cl_3 rfl (Nat.le_of_ble_eq_true rfl) rfl rfl fl_RX3_40 rfl (Nat.le_of_ble_eq_true rfl) dX3_worthOf_25 rfl ?_
      refine e_r_getr (k := 6) (q := 8) (pc' := 31) cl_8 rfl (Nat.le_of_ble_eq_true rfl) rfl rfl fl_RX3_152 rfl (Nat.le_of_ble_eq_true rfl) dX3_worthOf_28 rfl ?_
      refine e_r_iload_n (pc' := 32) dX3_worthOf_31 rfl rfl rfl ?_
      obtain ⟨hb5, h⟩ := h
      refine e_r_iald (j9 := v3.toNat) (pc' := 33) rfl (Nat.le_of_ble_eq_true rfl) hb5.1 hb5.2 rfl dX3_worthOf_32 rfl ?_
      refine e_r_iadd (pc' := 34) dX3_worthOf_33 rfl ?_
      refine e_r_istore_n (pc' := 35) (loc' := [some (.inr (.inr 43)), some (.inl p1), some (.inl (e_w (v2 + (M 8 v3.toNat)))), some (.inl v3)]) dX3_worthOf_34 rfl rfl rfl rfl rfl ?_
      refine e_r_iinc (pc' := 38) (loc' := [some (.inr (.inr 43)), some (.inl p1), some (.inl (e_w (v2 + (M 8 v3.toNat)))), some (.inl (e_w (v3 + 1)))]) dX3_worthOf_35 rfl rfl rfl rfl rfl ?_
      refine e_r_goto (pc' := 4) dX3_worthOf_38 rfl ?_
      exact h
