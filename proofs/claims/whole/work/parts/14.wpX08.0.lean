theorem wp_X8_copyFrom_town_0 {X : e_X} {d gn : Nat} {o : e_O} (M : e_M) (h : ((((((((o = (.inl none, (557, gn, e_RF, (e_cp (e_cp (e_cp (e_cp (e_cp (e_cp (e_cp (e_up (e_up (e_up M 4 0 (M 12 0)) 4 1 ((e_up M 4 0 (M 12 0)) 12 1)) 4 2 ((e_up (e_up M 4 0 (M 12 0)) 4 1 ((e_up M 4 0 (M 12 0)) 12 1)) 12 2)) 13 0 5 0 6) 14 0 6 0 6) 15 0 7 0 6) 16 0 8 0 6) 17 0 9 0 12) 18 0 10 0 12) 19 0 11 0 12)))))))))))) : e_G X (d + 1) YX8_copyFrom 0 [some (.inr (.inr 4)), some (.inr (.inr 12))] [] (557, gn, e_RF, M) o := by
  refine e_r_aload_n (pc' := 1) (by decide) dX8_copyFrom_0 rfl rfl rfl ?_
  refine e_r_aload_n (pc' := 2) (by decide) dX8_copyFrom_1 rfl rfl rfl ?_
  refine e_r_geti (k := 0) (pc' := 5) cl_8 rfl (Nat.le_of_ble_eq_true rfl) rfl rfl fl_RX8_9 dX8_copyFrom_2 rfl ?_
  refine e_r_puti (k := 0) (pc' := 8) cl_8 rfl (Nat.le_of_ble_eq_true rfl) rfl rfl fl_RX8_9 rfl (by decide +kernel) dX8_copyFrom_5 rfl ?_
  refine e_r_aload_n (pc' := 9) (by decide) dX8_copyFrom_8 rfl rfl rfl ?_
  refine e_r_aload_n (pc' := 10) (by decide) dX8_copyFrom_9 rfl rfl rfl ?_
  refine e_r_geti (k := 1) (pc' := 13) cl_8 rfl (Nat.le_of_ble_eq_true rfl) rfl rfl fl_RX8_15 dX8_copyFrom_10 rfl ?_
  refine e_r_puti (k := 1) (pc' := 16) cl_8 rfl (Nat.le_of_ble_eq_true rfl) rfl rfl fl_RX8_15 rfl (by decide +kernel) dX8_copyFrom_13 rfl ?_
  refine e_r_aload_n (pc' := 17) (by decide) dX8_copyFrom_16 rfl rfl rfl ?_
  refine e_r_aload_n (pc' := 18) (by decide) dX8_copyFrom_17 rfl rfl rfl ?_
  refine e_r_geti (k := 2) (pc' := 21) cl_8 rfl (Nat.le_of_ble_eq_true rfl) rfl rfl fl_RX8_18 dX8_copyFrom_18 rfl ?_
  refine e_r_puti (k := 2) (pc' := 24) cl_8 rfl (Nat.le_of_ble_eq_true rfl) rfl rfl fl_RX8_18 rfl (by decide +kernel) dX8_copyFrom_21 rfl ?_
  refine e_r_aload_n (pc' := 25) (by decide) dX8_copyFrom_24 rfl rfl rfl ?_
  refine e_r_getr (k := 3) (q := 13) (pc' := 28) cl_8 rfl (Nat.le_of_ble_eq_true rfl) rfl rfl fl_RX8_21 rfl (Nat.le_of_ble_eq_true rfl) dX8_copyFrom_25 rfl ?_
  refine e_r_iconst (pc' := 29) dX8_copyFrom_28 rfl (by decide) ?_
  refine e_r_aload_n (pc' := 30) (by decide) dX8_copyFrom_29 rfl rfl rfl ?_
  refine e_r_getr (k := 3) (q := 5) (pc' := 33) cl_8 rfl (Nat.le_of_ble_eq_true rfl) rfl rfl fl_RX8_21 rfl (Nat.le_of_ble_eq_true rfl) dX8_copyFrom_30 rfl ?_
  refine e_r_iconst (pc' := 34) dX8_copyFrom_33 rfl (by decide) ?_
  refine e_r_bipush (pc' := 36) dX8_copyFrom_34 rfl (by decide) ?_
  refine e_r_copy (pc' := 39) rfl rfl (Nat.le_of_ble_eq_true rfl) (Nat.le_of_ble_eq_true rfl) (by decide) (by decide) (by decide) (by decide) (by decide) lk_RX8_43 rfl dX8_copyFrom_36 rfl ?_
  refine e_r_aload_n (pc' := 40) (by decide) dX8_copyFrom_39 rfl rfl rfl ?_
  refine e_r_getr (k := 4) (q := 14) (pc' := 43) cl_8 rfl (Nat.le_of_ble_eq_true rfl) rfl rfl fl_RX8_25 rfl (Nat.le_of_ble_eq_true rfl) dX8_copyFrom_40 rfl ?_
  refine e_r_iconst (pc' := 44) dX8_copyFrom_43 rfl (by decide) ?_
  refine e_r_aload_n (pc' := 45) (by decide) dX8_copyFrom_44 rfl rfl rfl ?_
  refine e_r_getr (k := 4) (q := 6) (pc' := 48) cl_8 rfl (Nat.le_of_ble_eq_true rfl) rfl rfl fl_RX8_25 rfl (Nat.le_of_ble_eq_true rfl) dX8_copyFrom_45 rfl ?_
  refine e_r_iconst (pc' := 49) dX8_copyFrom_48 rfl (by decide) ?_
  refine e_r_bipush (pc' := 51) dX8_copyFrom_49 rfl (by decide) ?_
  refine e_r_copy (pc' := 54) rfl rfl (Nat.le_of_ble_eq_true rfl) (Nat.le_of_ble_eq_true rfl) (by decide) (by decide) (by decide) (by decide) (by decide) lk_RX8_43 rfl dX8_copyFrom_51 rfl ?_
  refine e_r_aload_n (pc' := 55) (by decide) dX8_copyFrom_54 rfl rfl rfl ?_
  refine e_r_getr (k := 5) (q := 15) (pc' := 58) cl_8 rfl (Nat.le_of_ble_eq_true rfl) rfl rfl fl_RX8_28 rfl (Nat.le_of_ble_eq_true rfl) dX8_copyFrom_55 rfl ?_
  refine e_r_iconst (pc' := 59) dX8_copyFrom_58 rfl (by decide) ?_
  refine e_r_aload_n (pc' := 60) (by decide) dX8_copyFrom_59 rfl rfl rfl ?_
  refine e_r_getr (k := 5) (q := 7) (pc' := 63) cl_8 rfl (Nat.le_of_ble_eq_true rfl) rfl rfl fl_RX8_28 rfl (Nat.le_of_ble_eq_true rfl) dX8_copyFrom_60 rfl ?_
  refine e_r_iconst (pc' := 64) dX8_copyFrom_63 rfl (by decide) ?_
  refine e_r_bipush (pc' := 66) dX8_copyFrom_64 rfl (by decide) ?_
  refine e_r_copy (pc' := 69) rfl rfl (Nat.le_of_ble_eq_true rfl) (Nat.le_of_ble_eq_true rfl) (by decide) (by decide) (by decide) (by decide) (by decide) lk_RX8_43 rfl dX8_copyFrom_66 rfl ?_
  refine e_r_aload_n (pc' := 70) (by decide) dX8_copyFrom_69 rfl rfl rfl ?_
  refine e_r_getr (k := 6) (q := 16) (pc' := 73) cl_8 rfl (Nat.le_of_ble_eq_true rfl) rfl rfl fl_RX8_31 rfl (Nat.le_of_ble_eq_true rfl) dX8_copyFrom_70 rfl ?_
  refine e_r_iconst (pc' := 74) dX8_copyFrom_73 rfl (by decide) ?_
  refine e_r_aload_n (pc' := 75) (by decide) dX8_copyFrom_74 rfl rfl rfl ?_
  refine e_r_getr (k := 6) (q := 8) (pc' := 78) cl_8 rfl (Nat.le_of_ble_eq_true rfl) rfl rfl fl_RX8_31 rfl (Nat.le_of_ble_eq_true rfl) dX8_copyFrom_75 rfl ?_
  refine e_r_iconst (pc' := 79) dX8_copyFrom_78 rfl (by decide) ?_
  refine e_r_bipush (pc' := 81) dX8_copyFrom_79 rfl (by decide) ?_
  refine e_r_copy (pc' := 84) rfl rfl (Nat.le_of_ble_eq_true rfl) (Nat.le_of_ble_eq_true rfl) (by decide) (by decide) (by decide) (by decide) (by decide) lk_RX8_43 rfl dX8_copyFrom_81 rfl ?_
  refine e_r_aload_n (pc' := 85) (by decide) dX8_copyFrom_84 rfl rfl rfl ?_
  refine e_r_getr (k := 7) (q := 17) (pc' := 88) cl_8 rfl (Nat.le_of_ble_eq_true rfl) rfl rfl fl_RX8_34 rfl (Nat.le_of_ble_eq_true rfl) dX8_copyFrom_85 rfl ?_
  refine e_r_iconst (pc' := 89) dX8_copyFrom_88 rfl (by decide) ?_
  refine e_r_aload_n (pc' := 90) (by decide) dX8_copyFrom_89 rfl rfl rfl ?_
  refine e_r_getr (k := 7) (q := 9) (pc' := 93) cl_8 rfl (Nat.le_of_ble_eq_true rfl) rfl rfl fl_RX8_34 rfl (Nat.le_of_ble_eq_true rfl) dX8_copyFrom_90 rfl ?_
  refine e_r_iconst (pc' := 94) dX8_copyFrom_93 rfl (by decide) ?_
  refine e_r_bipush (pc' := 96) dX8_copyFrom_94 rfl (by decide) ?_
  refine e_r_copy (pc' := 99) rfl rfl (Nat.le_of_ble_eq_true rfl) (Nat.le_of_ble_eq_true rfl) (by decide) (by decide) (by decide) (by decide) (by decide) lk_RX8_43 rfl dX8_copyFrom_96 rfl ?_
  refine e_r_aload_n (pc' := 100) (by decide) dX8_copyFrom_99 rfl rfl rfl ?_
  refine e_r_getr (k := 8) (q := 18) (pc' := 103) cl_8 rfl (Nat.le_of_ble_eq_true rfl) rfl rfl fl_RX8_37 rfl (Nat.le_of_ble_eq_true rfl) dX8_copyFrom_100 rfl ?_
  refine e_r_iconst (pc' := 104) dX8_copyFrom_103 rfl (by decide) ?_
  refine e_r_aload_n (pc' := 105) (by decide) dX8_copyFrom_104 rfl rfl rfl ?_
  refine e_r_getr (k := 8) (q := 10) (pc' := 108) cl_8 rfl (Nat.le_of_ble_eq_true rfl) rfl rfl fl_RX8_37 rfl (Nat.le_of_ble_eq_true rfl) dX8_copyFrom_105 rfl ?_
  refine e_r_iconst (pc' := 109) dX8_copyFrom_108 rfl (by decide) ?_
  refine e_r_bipush (pc' := 111) dX8_copyFrom_109 rfl (by decide) ?_
  refine e_r_copy (pc' := 114) rfl rfl (Nat.le_of_ble_eq_true rfl) (Nat.le_of_ble_eq_true rfl) (by decide) (by decide) (by decide) (by decide) (by decide) lk_RX8_43 rfl dX8_copyFrom_111 rfl ?_
  refine e_r_aload_n (pc' := 115) (by decide) dX8_copyFrom_114 rfl rfl rfl ?_
  refine e_r_getr (k := 9) (q := 19) (pc' := 118) cl_8 rfl (Nat.le_of_ble_eq_true rfl) rfl rfl fl_RX8_40 rfl (Nat.le_of_ble_eq_true rfl) dX8_copyFrom_115 rfl ?_
  refine e_r_iconst (pc' := 119) dX8_copyFrom_118 rfl (by decide) ?_
  refine e_r_aload_n (pc' := 120) (by decide) dX8_copyFrom_119 rfl rfl rfl ?_
  refine e_r_getr (k := 9) (q := 11) (pc' := 123) cl_8 rfl (Nat.le_of_ble_eq_true rfl) rfl rfl fl_RX8_40 rfl (Nat.le_of_ble_eq_true rfl) dX8_copyFrom_120 rfl ?_
  refine e_r_iconst (pc' := 124) dX8_copyFrom_123 rfl (by decide) ?_
  refine e_r_bipush (pc' := 126) dX8_copyFrom_124 rfl (by decide) ?_
  refine e_r_copy (pc' := 129) rfl rfl (Nat.le_of_ble_eq_true rfl) (Nat.le_of_ble_eq_true rfl) (by decide) (by decide) (by decide) (by decide) (by decide) lk_RX8_43 rfl dX8_copyFrom_126 rfl ?_
  exact e_r_vret rfl dX8_copyFrom_129 h
theorem wp_X8_ableBits_town_0 {X : e_X} {d gn : Nat} {o : e_O} (M : e_M) (p1 : Int) (h : e_G X d YX8_ableBits 4 [some (.inr (.inr 4)), some (.inl p1), some (.inl 0), some (.inl 0)] [] (557, gn, e_RF, M) o) : e_G X d YX8_ableBits 0 [some (.inr (.inr 4)), some (.inl p1), none, none] [] (557, gn, e_RF, M) o := by
  refine e_r_iconst (pc' := 1) dX8_ableBits_0 rfl (by decide) ?_
  refine e_r_istore_n (pc' := 2) (loc' := [some (.inr (.inr 4)), some (.inl p1), some (.inl 0), none]) dX8_ableBits_1 rfl rfl rfl rfl rfl ?_
  refine e_r_iconst (pc' := 3) dX8_ableBits_2 rfl (by decide) ?_
  refine e_r_istore_n (pc' := 4) (loc' := [some (.inr (.inr 4)), some (.inl p1), some (.inl 0), some (.inl 0)]) dX8_ableBits_3 rfl rfl rfl rfl rfl ?_
  exact h
theorem wp_X8_ableBits_town_4 {X : e_X} {d gn : Nat} {o : e_O} (M : e_M) (p1 v2 v3 : Int) (h : (((M 4 0) ≤ v3 → (o = (.inl (some (.inl v2)), (557, gn, e_RF, M)))) ∧ (¬ ((M 4 0) ≤ v3) → ((0 ≤ v3 ∧ v3 < 6) ∧ (((e_and (e_shr (M 7 v3.toNat) p1) 1) = 0 → e_G X d YX8_ableBits 4 [some (.inr (.inr 4)), some (.inl p1), some (.inl v2), some (.inl (e_w (v3 + 1)))] [] (557, gn, e_RF, M) o) ∧ (¬ ((e_and (e_shr (M 7 v3.toNat) p1) 1) = 0) → e_G X d YX8_ableBits 4 [some (.inr (.inr 4)), some (.inl p1), some (.inl (e_or v2 (e_shl 1 v3))), some (.inl (e_w (v3 + 1)))] [] (557, gn, e_RF, M) o)))))) : e_G X d YX8_ableBits 4 [some (.inr (.inr 4)), some (.inl p1), some (.inl v2), some (.inl v3)] [] (557, gn, e_RF, M) o := by
  refine e_r_iload_n (pc' := 5) dX8_ableBits_4 rfl rfl rfl ?_
  refine e_r_aload_n (pc' := 6) (by decide) dX8_ableBits_5 rfl rfl rfl ?_
  refine e_r_geti (k := 0) (pc' := 9) cl_8 rfl (Nat.le_of_ble_eq_true rfl) rfl rfl fl_RX8_9 dX8_ableBits_6 rfl ?_
  obtain ⟨ht1, hf2⟩ := h
  refine e_r_icmp_ge (tgt := 37) (pc' := 12) dX8_ableBits_9 rfl rfl (fun c => ?_) (fun c => ?_)
  · have h := ht1 c
    refine e_r_iload_n (pc' := 38) dX8_ableBits_37 rfl rfl rfl ?_
    exact e_r_iret (ty := .int) rfl (e_nI _) dX8_ableBits_38 h
  · have h := hf2 c
    refine e_r_aload_n (pc' := 13) (by decide) dX8_ableBits_12 rfl rfl rfl ?_
    refine e_r_getr (k := 5) (q := 7) (pc' := 16) cl_8 rfl (Nat.le_of_ble_eq_true rfl) rfl rfl fl_RX8_28 rfl (Nat.le_of_ble_eq_true rfl) dX8_ableBits_13 rfl ?_
    refine e_r_iload_n (pc' := 17) dX8_ableBits_16 rfl rfl rfl ?_
    obtain ⟨hb3, h⟩ := h
    refine e_r_iald (j9 := v3.toNat) (pc' := 18) rfl (Nat.le_of_ble_eq_true rfl) hb3.1 hb3.2 rfl dX8_ableBits_17 rfl ?_
    refine e_r_iload_n (pc' := 19) dX8_ableBits_18 rfl rfl rfl ?_
    refine e_r_ishr (pc' := 20) dX8_ableBits_19 rfl ?_
    refine e_r_iconst (pc' := 21) dX8_ableBits_20 rfl (by decide) ?_
    refine e_r_iand (pc' := 22) dX8_ableBits_21 rfl ?_
    obtain ⟨ht4, hf5⟩ := h
    refine e_r_if_eq (tgt := 31) (pc' := 25) dX8_ableBits_22 rfl rfl (fun c => ?_) (fun c => ?_)
    · have h := ht4 c
      refine e_r_iinc (pc' := 34) (loc' := [some (.inr (.inr 4)), some (.inl p1), some (.inl v2), some (.inl (e_w (v3 + 1)))]) dX8_ableBits_31 rfl rfl rfl rfl rfl ?_
      refine e_r_goto (pc' := 4) dX8_ableBits_34 rfl ?_
      exact h
    · have h := hf5 c
      refine e_r_iload_n (pc' := 26) dX8_ableBits_25 rfl rfl rfl ?_
      refine e_r_iconst (pc' := 27) dX8_ableBits_26 rfl (by decide) ?_
      refine e_r_iload_n (pc' := 28) dX8_ableBits_27 rfl rfl rfl ?_
      refine e_r_ishl (pc' := 29) dX8_ableBits_28 rfl ?_
      refine e_r_ior (pc' := 30) dX8_ableBits_29 rfl ?_
      refine e_r_istore_n (pc' := 31) (loc' := [some (.inr (.inr 4)), some (.inl p1), some (.inl (e_or v2 (e_shl 1 v3))), some (.inl v3)]) dX8_ableBits_30 rfl rfl rfl rfl rfl ?_
      refine e_r_iinc (pc' := 34) (loc' := [some (.inr (.inr 4)), some (.inl p1), some (.inl (e_or v2 (e_shl 1 v3))), some (.inl (e_w (v3 + 1)))]) dX8_ableBits_31 rfl rfl rfl rfl rfl ?_
      refine e_r_goto (pc' := 4) dX8_ableBits_34 rfl ?_
      exact h
theorem wp_X8_ableBits_townDraft_0 {X : e_X} {d gn : Nat} {o : e_O} (M : e_M) (p1 : Int) (h : e_G X d YX8_ableBits 4 [some (.inr (.inr 12)), some (.inl p1), some (.inl 0), some (.inl 0)] [] (557, gn, e_RF, M) o) : e_G X d YX8_ableBits 0 [some (.inr (.inr 12)), some (.inl p1), none, none] [] (557, gn, e_RF, M) o := by
  refine e_r_iconst (pc' := 1) dX8_ableBits_0 rfl (by decide) ?_
  refine e_r_istore_n (pc' := 2) (loc' := [some (.inr (.inr 12)), some (.inl p1), some (.inl 0), none]) dX8_ableBits_1 rfl rfl rfl rfl rfl ?_
  refine e_r_iconst (pc' := 3) dX8_ableBits_2 rfl (by decide) ?_
  refine e_r_istore_n (pc' := 4) (loc' := [some (.inr (.inr 12)), some (.inl p1), some (.inl 0), some (.inl 0)]) dX8_ableBits_3 rfl rfl rfl rfl rfl ?_
  exact h
theorem wp_X8_ableBits_townDraft_4 {X : e_X} {d gn : Nat} {o : e_O} (M : e_M) (p1 v2 v3 : Int) (h : (((M 12 0) ≤ v3 → (o = (.inl (some (.inl v2)), (557, gn, e_RF, M)))) ∧ (¬ ((M 12 0) ≤ v3) → ((0 ≤ v3 ∧ v3 < 6) ∧ (((e_and (e_shr (M 15 v3.toNat) p1) 1) = 0 → e_G X d YX8_ableBits 4 [some (.inr (.inr 12)), some (.inl p1), some (.inl v2), some (.inl (e_w (v3 + 1)))] [] (557, gn, e_RF, M) o) ∧ (¬ ((e_and (e_shr (M 15 v3.toNat) p1) 1) = 0) → e_G X d YX8_ableBits 4 [some (.inr (.inr 12)), some (.inl p1), some (.inl (e_or v2 (e_shl 1 v3))), some (.inl (e_w (v3 + 1)))] [] (557, gn, e_RF, M) o)))))) : e_G X d YX8_ableBits 4 [some (.inr (.inr 12)), some (.inl p1), some (.inl v2), some (.inl v3)] [] (557, gn, e_RF, M) o := by
  refine e_r_iload_n (pc' := 5) dX8_ableBits_4 rfl rfl rfl ?_
  refine e_r_aload_n (pc' := 6) (by decide) dX8_ableBits_5 rfl rfl rfl ?_
  refine e_r_geti (k := 0) (pc' := 9) cl_8 rfl (Nat.le_of_ble_eq_true rfl) rfl rfl fl_RX8_9 dX8_ableBits_6 rfl ?_
  obtain ⟨ht1, hf2⟩ := h
  refine e_r_icmp_ge (tgt := 37) (pc' := 12) dX8_ableBits_9 rfl rfl (fun c => ?_) (fun c => ?_)
  · have h := ht1 c
    refine e_r_iload_n (pc' := 38) dX8_ableBits_37 rfl rfl rfl ?_
    exact e_r_iret (ty := .int) rfl (e_nI _) dX8_ableBits_38 h
  · have h := hf2 c
    refine e_r_aload_n (pc' := 13) (by decide) dX8_ableBits_12 rfl rfl rfl ?_
    refine e_r_getr (k := 5) (q := 15) (pc' := 16) cl_8 rfl (Nat.le_of_ble_eq_true rfl) rfl rfl fl_RX8_28 rfl (Nat.le_of_ble_eq_true rfl) dX8_ableBits_13 rfl ?_
    refine e_r_iload_n (pc' := 17) dX8_ableBits_16 rfl rfl rfl ?_
    obtain ⟨hb3, h⟩ := h
    refine e_r_iald (j9 := v3.toNat) (pc' := 18) rfl (Nat.le_of_ble_eq_true rfl) hb3.1 hb3.2 rfl dX8_ableBits_17 rfl ?_
    refine e_r_iload_n (pc' := 19) dX8_ableBits_18 rfl rfl rfl ?_
    refine e_r_ishr (pc' := 20) dX8_ableBits_19 rfl ?_
    refine e_r_iconst (pc' := 21) dX8_ableBits_20 rfl (by decide) ?_
    refine e_r_iand (pc' := 22) dX8_ableBits_21 rfl ?_
    obtain ⟨ht4, hf5⟩ := h
    refine e_r_if_eq (tgt := 31) (pc' := 25) dX8_ableBits_22 rfl rfl (fun c => ?_) (fun c => ?_)
    · have h := ht4 c
      refine e_r_iinc (pc' := 34) (loc' := [some (.inr (.inr 12)), some (.inl p1), some (.inl v2), some (.inl (e_w (v3 + 1)))]) dX8_ableBits_31 rfl rfl rfl rfl rfl ?_
      refine e_r_goto (pc' := 4) dX8_ableBits_34 rfl ?_
      exact h
    · have h := hf5 c
      refine e_r_iload_n (pc' := 26) dX8_ableBits_25 rfl rfl rfl ?_
      refine e_r_iconst (pc' := 27) dX8_ableBits_26 rfl (by decide) ?_
      refine e_r_iload_n (pc' := 28) dX8_ableBits_27 rfl rfl rfl ?_
      refine e_r_ishl (pc' := 29) dX8_ableBits_28 rfl ?_
      refine e_r_ior (pc' := 30) dX8_ableBits_29 rfl ?_
      refine e_r_istore_n (pc' := 31) (loc' := [some (.inr (.inr 12)), some (.inl p1), some (.inl (e_or v2 (e_shl 1 v3))), some (.inl v3)]) dX8_ableBits_30 rfl rfl rfl rfl rfl ?_
      refine e_r_iinc (pc' := 34) (loc' := [some (.inr (.inr 12)), some (.inl p1), some (.inl (e_or v2 (e_shl 1 v3))), some (.inl (e_w (v3 + 1)))]) dX8_ableBits_31 rfl rfl rfl rfl rfl ?_
      refine e_r_goto (pc' := 4) dX8_ableBits_34 rfl ?_
      exact h
theorem wp_X8_skillsOf_town_0 {X : e_X} {d gn : Nat} {o : e_O} (M : e_M) (p1 : Int) (h : e_G X d YX8_skillsOf 4 [some (.inr (.inr 4)), some (.inl p1), some (.inl 0), some (.inl 0)] [] (557, gn, e_RF, M) o) : e_G X d YX8_skillsOf 0 [some (.inr (.inr 4)), some (.inl p1), none, none] [] (557, gn, e_RF, M) o := by
  refine e_r_iconst (pc' := 1) dX8_skillsOf_0 rfl (by decide) ?_
  refine e_r_istore_n (pc' := 2) (loc' := [some (.inr (.inr 4)), some (.inl p1), some (.inl 0), none]) dX8_skillsOf_1 rfl rfl rfl rfl rfl ?_
  refine e_r_iconst (pc' := 3) dX8_skillsOf_2 rfl (by decide) ?_
  refine e_r_istore_n (pc' := 4) (loc' := [some (.inr (.inr 4)), some (.inl p1), some (.inl 0), some (.inl 0)]) dX8_skillsOf_3 rfl rfl rfl rfl rfl ?_
  exact h
theorem wp_X8_skillsOf_town_4 {X : e_X} {d gn : Nat} {o : e_O} (M : e_M) (p1 v2 v3 : Int) (h : (((M 4 0) ≤ v3 → (o = (.inl (some (.inl v2)), (557, gn, e_RF, M)))) ∧ (¬ ((M 4 0) ≤ v3) → (((e_and (e_shr p1 v3) 1) = 0 → e_G X d YX8_skillsOf 4 [some (.inr (.inr 4)), some (.inl p1), some (.inl v2), some (.inl (e_w (v3 + 1)))] [] (557, gn, e_RF, M) o) ∧ (¬ ((e_and (e_shr p1 v3) 1) = 0) → ((0 ≤ v3 ∧ v3 < 6) ∧ e_G X d YX8_skillsOf 4 [some (.inr (.inr 4)), some (.inl p1), some (.inl (e_or v2 (M 7 v3.toNat))), some (.inl (e_w (v3 + 1)))] [] (557, gn, e_RF, M) o)))))) : e_G X d YX8_skillsOf 4 [some (.inr (.inr 4)), some (.inl p1), some (.inl v2), some (.inl v3)] [] (557, gn, e_RF, M) o := by
  refine e_r_iload_n (pc' := 5) dX8_skillsOf_4 rfl rfl rfl ?_
  refine e_r_aload_n (pc' := 6) (by decide) dX8_skillsOf_5 rfl rfl rfl ?_
  refine e_r_geti (k := 0) (pc' := 9) cl_8 rfl (Nat.le_of_ble_eq_true rfl) rfl rfl fl_RX8_9 dX8_skillsOf_6 rfl ?_
  obtain ⟨ht1, hf2⟩ := h
  refine e_r_icmp_ge (tgt := 35) (pc' := 12) dX8_skillsOf_9 rfl rfl (fun c => ?_) (fun c => ?_)
  · have h := ht1 c
    refine e_r_iload_n (pc' := 36) dX8_skillsOf_35 rfl rfl rfl ?_
    exact e_r_iret (ty := .int) rfl (e_nI _) dX8_skillsOf_36 h
  · have h := hf2 c
    refine e_r_iload_n (pc' := 13) dX8_skillsOf_12 rfl rfl rfl ?_
    refine e_r_iload_n (pc' := 14) dX8_skillsOf_13 rfl rfl rfl ?_
    refine e_r_ishr (pc' := 15) dX8_skillsOf_14 rfl ?_
    refine e_r_iconst (pc' := 16) dX8_skillsOf_15 rfl (by decide) ?_
    refine e_r_iand (pc' := 17) dX8_skillsOf_16 rfl ?_
    obtain ⟨ht3, hf4⟩ := h
    refine e_r_if_eq (tgt := 29) (pc' := 20) dX8_skillsOf_17 rfl rfl (fun c => ?_) (fun c => ?_)
    · have h := ht3 c
      refine e_r_iinc (pc' := 32) (loc' := [some (.inr (.inr 4)), some (.inl p1), some (.inl v2), some (.inl (e_w (v3 + 1)))]) dX8_skillsOf_29 rfl rfl rfl rfl rfl ?_
      refine e_r_goto (pc' := 4) dX8_skillsOf_32 rfl ?_
      exact h
    · have h := hf4 c
      refine e_r_iload_n (pc' := 21) dX8_skillsOf_20 rfl rfl rfl ?_
      refine e_r_aload_n (pc' := 22) (by decide) dX8_skillsOf_21 rfl rfl rfl ?_
      refine e_r_getr (k := 5) (q := 7) (pc' := 25) cl_8 rfl (Nat.le_of_ble_eq_true rfl) rfl rfl fl_RX8_28 rfl (Nat.le_of_ble_eq_true rfl) dX8_skillsOf_22 rfl ?_
      refine e_r_iload_n (pc' := 26) dX8_skillsOf_25 rfl rfl rfl ?_
      obtain ⟨hb5, h⟩ := h
      refine e_r_iald (j9 := v3.toNat) (pc' := 27) rfl (Nat.le_of_ble_eq_true rfl) hb5.1 hb5.2 rfl dX8_skillsOf_26 rfl ?_
      refine e_r_ior (pc' := 28) dX8_skillsOf_27 rfl ?_
      refine e_r_istore_n (pc' := 29) (loc' := [some (.inr (.inr 4)), some (.inl p1), some (.inl (e_or v2 (M 7 v3.toNat))), some (.inl v3)]) dX8_skillsOf_28 rfl rfl rfl rfl rfl ?_
      refine e_r_iinc (pc' := 32) (loc' := [some (.inr (.inr 4)), some (.inl p1), some (.inl (e_or v2 (M 7 v3.toNat))), some (.inl (e_w (v3 + 1)))]) dX8_skillsOf_29 rfl rfl rfl rfl rfl ?_
      refine e_r_goto (pc' := 4) dX8_skillsOf_32 rfl ?_
      exact h
theorem wp_X8_skillsOf_townDraft_0 {X : e_X} {d gn : Nat} {o : e_O} (M : e_M) (p1 : Int) (h : e_G X d YX8_skillsOf 4 [some (.inr (.inr 12)), some (.inl p1), some (.inl 0), some (.inl 0)] [] (557, gn, e_RF, M) o) : e_G X d YX8_skillsOf 0 [some (.inr (.inr 12)), some (.inl p1), none, none] [] (557, gn, e_RF, M) o := by
  refine e_r_iconst (pc' := 1) dX8_skillsOf_0 rfl (by decide) ?_
  refine e_r_istore_n (pc' := 2) (loc' := [some (.inr (.inr 12)), some (.inl p1), some (.inl 0), none]) dX8_skillsOf_1 rfl rfl rfl rfl rfl ?_
  refine e_r_iconst (pc' := 3) dX8_skillsOf_2 rfl (by decide) ?_
  refine e_r_istore_n (pc' := 4) (loc' := [some (.inr (.inr 12)), some (.inl p1), some (.inl 0), some (.inl 0)]) dX8_skillsOf_3 rfl rfl rfl rfl rfl ?_
  exact h
theorem wp_X8_skillsOf_townDraft_4 {X : e_X} {d gn : Nat} {o : e_O} (M : e_M) (p1 v2 v3 : Int) (h : (((M 12 0) ≤ v3 → (o = (.inl (some (.inl v2)), (557, gn, e_RF, M)))) ∧ (¬ ((M 12 0) ≤ v3) → (((e_and (e_shr p1 v3) 1) = 0 → e_G X d YX8_skillsOf 4 [some (.inr (.inr 12)), some (.inl p1), some (.inl v2), some (.inl (e_w (v3 + 1)))] [] (557, gn, e_RF, M) o) ∧ (¬ ((e_and (e_shr p1 v3) 1) = 0) → ((0 ≤ v3 ∧ v3 < 6) ∧ e_G X d YX8_skillsOf 4 [some (.inr (.inr 12)), some (.inl p1), some (.inl (e_or v2 (M 15 v3.toNat))), some (.inl (e_w (v3 + 1)))] [] (557, gn, e_RF, M) o)))))) : e_G X d YX8_skillsOf 4 [some (.inr (.inr 12)), some (.inl p1), some (.inl v2), some (.inl v3)] [] (557, gn, e_RF, M) o := by
  refine e_r_iload_n (pc' := 5) dX8_skillsOf_4 rfl rfl rfl ?_
  refine e_r_aload_n (pc' := 6) (by decide) dX8_skillsOf_5 rfl rfl rfl ?_
  refine e_r_geti (k := 0) (pc' := 9) cl_8 rfl (Nat.le_of_ble_eq_true rfl) rfl rfl fl_RX8_9 dX8_skillsOf_6 rfl ?_
  obtain ⟨ht1, hf2⟩ := h
  refine e_r_icmp_ge (tgt := 35) (pc' := 12) dX8_skillsOf_9 rfl rfl (fun c => ?_) (fun c => ?_)
  · have h := ht1 c
    refine e_r_iload_n (pc' := 36) dX8_skillsOf_35 rfl rfl rfl ?_
    exact e_r_iret (ty := .int) rfl (e_nI _) dX8_skillsOf_36 h
  · have h := hf2 c
    refine e_r_iload_n (pc' := 13) dX8_skillsOf_12 rfl rfl rfl ?_
    refine e_r_iload_n (pc' := 14) dX8_skillsOf_13 rfl rfl rfl ?_
    refine e_r_ishr (pc' := 15) dX8_skillsOf_14 rfl ?_
    refine e_r_iconst (pc' := 16) dX8_skillsOf_15 rfl (by decide) ?_
    refine e_r_iand (pc' := 17) dX8_skillsOf_16 rfl ?_
    obtain ⟨ht3, hf4⟩ := h
    refine e_r_if_eq (tgt := 29) (pc' := 20) dX8_skillsOf_17 rfl rfl (fun c => ?_) (fun c => ?_)
    · have h := ht3 c
      refine e_r_iinc (pc' := 32) (loc' := [some (.inr (.inr 12)), some (.inl p1), some (.inl v2), some (.inl (e_w (v3 + 1)))]) dX8_skillsOf_29 rfl rfl rfl rfl rfl ?_
      refine e_r_goto (pc' := 4) dX8_skillsOf_32 rfl ?_
      exact h
    · have h := hf4 c
      refine e_r_iload_n (pc' := 21) dX8_skillsOf_20 rfl rfl rfl ?_
      refine e_r_aload_n (pc' := 22) (by decide) dX8_skillsOf_21 rfl rfl rfl ?_
      refine e_r_getr (k := 5) (q := 15) (pc' := 25) cl_8 rfl (Nat.le_of_ble_eq_true rfl) rfl rfl fl_RX8_28 rfl (Nat.le_of_ble_eq_true rfl) dX8_skillsOf_22 rfl ?_
      refine e_r_iload_n (pc' := 26) dX8_skillsOf_25 rfl rfl rfl ?_
      obtain ⟨hb5, h⟩ := h
      refine e_r_iald (j9 := v3.toNat) (pc' := 27) rfl (Nat.le_of_ble_eq_true rfl) hb5.1 hb5.2 rfl dX8_skillsOf_26 rfl ?_
      refine e_r_ior (pc' := 28) dX8_skillsOf_27 rfl ?_
      refine e_r_istore_n (pc' := 29) (loc' := [some (.inr (.inr 12)), some (.inl p1), some (.inl (e_or v2 (M 15 v3.toNat))), some (.inl v3)]) dX8_skillsOf_28 rfl rfl rfl rfl rfl ?_
      refine e_r_iinc (pc' := 32) (loc' := [some (.inr (.inr 12)), some (.inl p1), some (.inl (e_or v2 (M 15 v3.toNat))), some (.inl (e_w (v3 + 1)))]) dX8_skillsOf_29 rfl rfl rfl rfl rfl ?_
      refine e_r_goto (pc' := 4) dX8_skillsOf_32 rfl ?_
      exact h
theorem wp_X8_readFrom_townDraft_0 {X : e_X} {d gn : Nat} {o : e_O} (M : e_M) (h : e_G X (d + 1) YX8_readFrom 17 [some (.inr (.inr 12)), some (.inr (.inr 2)), some (.inl 0), none] [] (557, gn, e_RF, (e_up (e_up (e_up M 12 0 0) 12 1 0) 12 2 0)) o) : e_G X (d + 1) YX8_readFrom 0 [some (.inr (.inr 12)), some (.inr (.inr 2)), none, none] [] (557, gn, e_RF, M) o := by
  refine e_r_aload_n (pc' := 1) (by decide) dX8_readFrom_0 rfl rfl rfl ?_
  refine e_r_iconst (pc' := 2) dX8_readFrom_1 rfl (by decide) ?_
  refine e_r_puti (k := 0) (pc' := 5) cl_8 rfl (Nat.le_of_ble_eq_true rfl) rfl rfl fl_RX8_9 rfl (by decide +kernel) dX8_readFrom_2 rfl ?_
  refine e_r_aload_n (pc' := 6) (by decide) dX8_readFrom_5 rfl rfl rfl ?_
  refine e_r_iconst (pc' := 7) dX8_readFrom_6 rfl (by decide) ?_
  refine e_r_puti (k := 1) (pc' := 10) cl_8 rfl (Nat.le_of_ble_eq_true rfl) rfl rfl fl_RX8_15 rfl (by decide +kernel) dX8_readFrom_7 rfl ?_
  refine e_r_aload_n (pc' := 11) (by decide) dX8_readFrom_10 rfl rfl rfl ?_
  refine e_r_iconst (pc' := 12) dX8_readFrom_11 rfl (by decide) ?_
  refine e_r_puti (k := 2) (pc' := 15) cl_8 rfl (Nat.le_of_ble_eq_true rfl) rfl rfl fl_RX8_18 rfl (by decide +kernel) dX8_readFrom_12 rfl ?_
  refine e_r_iconst (pc' := 16) dX8_readFrom_15 rfl (by decide) ?_
  refine e_r_istore_n (pc' := 17) (loc' := [some (.inr (.inr 12)), some (.inr (.inr 2)), some (.inl 0), none]) dX8_readFrom_16 rfl rfl rfl rfl rfl ?_
  exact h
theorem wp_X8_readFrom_townDraft_17 {X : e_X} {d gn : Nat} {o : e_O} (M : e_M) (v2 : Int) (hmo : e_mn (557, gn, e_RF, M) o.2) (h : ((60 < v2 → (o = (.inl none, (557, gn, e_RF, M)))) ∧ (¬ (60 < v2) → (∃ (r4 : Int) (N3 : e_M), e_E X d YX7_flawed [.inr (.inr 2)] (557, gn, e_RF, M) (.inl (some (.inl r4)), (557, gn, e_RF, N3)) ∧ ((¬ r4 = 0 → (o = (.inl none, (557, gn, e_RF, N3)))) ∧ (r4 = 0 → (∃ (r9 : Int) (N8 : e_M), e_E X d YX7_atEnd [.inr (.inr 2)] (557, gn, e_RF, N3) (.inl (some (.inl r9)), (557, gn, e_RF, N8)) ∧ ((¬ r9 = 0 → (o = (.inl none, (557, gn, e_RF, N8)))) ∧ (r9 = 0 → (∃ (r14 : Int) (N13 : e_M), e_E X d YX7_readWord [.inr (.inr 2), .inr (.inr 1000001)] (557, gn, e_RF, N8) (.inl (some (.inl r14)), (557, gn, e_RF, N13)) ∧ ((v2 < 60 → e_G X (d + 1) YX8_readFrom 59 [some (.inr (.inr 12)), some (.inr (.inr 2)), some (.inl v2), some (.inl r14)] [] (557, gn, e_RF, N13) o) ∧ (¬ (v2 < 60) → (∃ N18 : e_M, e_E X d YX7_noteFlaw [.inr (.inr 2), .inl 3, .inl (N13 2 6)] (557, gn, e_RF, N13) (.inl none, (557, gn, e_RF, N18)) ∧ e_G X (d + 1) YX8_readFrom 59 [some (.inr (.inr 12)), some (.inr (.inr 2)), some (.inl v2), some (.inl r14)] [] (557, gn, e_RF, N18) o))))))))))))) : e_G X (d + 1) YX8_readFrom 17 [some (.inr (.inr 12)), some (.inr (.inr 2)), some (.inl v2), none] [] (557, gn, e_RF, M) o := by
  refine e_r_iload_n (pc' := 18) dX8_readFrom_17 rfl rfl rfl ?_
  refine e_r_bipush (pc' := 20) dX8_readFrom_18 rfl (by decide) ?_
  obtain ⟨ht1, hf2⟩ := h
  refine e_r_icmp_gt (tgt := 77) (pc' := 23) dX8_readFrom_20 rfl rfl (fun c => ?_) (fun c => ?_)
  · have h := ht1 c
    exact e_r_vret rfl dX8_readFrom_77 h
  · have h := hf2 c
    refine e_r_aload_n (pc' := 24) (by decide) dX8_readFrom_23 rfl rfl rfl ?_
    obtain ⟨r4, N3, he5, h⟩ := h
    refine e_r_callV (a := 2) (av := []) (st := []) mqYX7_flawed ml_RX8_49 cl_7 rfl (Nat.le_of_ble_eq_true rfl) (by simp [e_cat]) rfl rfl rfl dX8_readFrom_24 (pc' := 27) rfl he5 ⟨Nat.le_refl _, Nat.le_refl _⟩ hmo ?_
    obtain ⟨ht6, hf7⟩ := h
    refine e_r_if_ne (tgt := 77) (pc' := 30) dX8_readFrom_27 rfl rfl (fun c => ?_) (fun c => ?_)
    · have h := ht6 c
      exact e_r_vret rfl dX8_readFrom_77 h
    · have h := hf7 c
      refine e_r_aload_n (pc' := 31) (by decide) dX8_readFrom_30 rfl rfl rfl ?_
      obtain ⟨r9, N8, he10, h⟩ := h
      refine e_r_callV (a := 2) (av := []) (st := []) mqYX7_atEnd ml_RX8_55 cl_7 rfl (Nat.le_of_ble_eq_true rfl) (by simp [e_cat]) rfl rfl rfl dX8_readFrom_31 (pc' := 34) rfl he10 ⟨Nat.le_refl _, Nat.le_refl _⟩ hmo ?_
      obtain ⟨ht11, hf12⟩ := h
      refine e_r_if_ne (tgt := 77) (pc' := 37) dX8_readFrom_34 rfl rfl (fun c => ?_) (fun c => ?_)
      · have h := ht11 c
        exact e_r_vret rfl dX8_readFrom_77 h
      · have h := hf12 c
        refine e_r_aload_n (pc' := 38) (by decide) dX8_readFrom_37 rfl rfl rfl ?_
        refine e_r_ldcs (q := 1000001) (pc' := 40) e_str_1 rfl dX8_readFrom_38 rfl ?_
        obtain ⟨r14, N13, he15, h⟩ := h
        refine e_r_callV (a := 2) (av := [.inr (.inr 1000001)]) (st := []) mqYX7_readWord ml_RX8_60 cl_7 rfl (Nat.le_of_ble_eq_true rfl) (by simp [e_cat]) rfl rfl rfl dX8_readFrom_40 (pc' := 43) rfl he15 ⟨Nat.le_refl _, Nat.le_refl _⟩ hmo ?_
        refine e_r_istore_n (pc' := 44) (loc' := [some (.inr (.inr 12)), some (.inr (.inr 2)), some (.inl v2), some (.inl r14)]) dX8_readFrom_43 rfl rfl rfl rfl rfl ?_
        refine e_r_iload_n (pc' := 45) dX8_readFrom_44 rfl rfl rfl ?_
        refine e_r_bipush (pc' := 47) dX8_readFrom_45 rfl (by decide) ?_
        obtain ⟨ht16, hf17⟩ := h
        refine e_r_icmp_lt (tgt := 59) (pc' := 50) dX8_readFrom_47 rfl rfl (fun c => ?_) (fun c => ?_)
        · have h := ht16 c
          exact h
        · have h := hf17 c
          refine e_r_aload_n (pc' := 51) (by decide) dX8_readFrom_50 rfl rfl rfl ?_
          refine e_r_iconst (pc' := 52) dX8_readFrom_51 rfl (by decide) ?_
          refine e_r_aload_n (pc' := 53) (by decide) dX8_readFrom_52 rfl rfl rfl ?_
          refine e_r_geti (k := 6) (pc' := 56) cl_7 rfl (Nat.le_of_ble_eq_true rfl) rfl rfl fl_RX8_64 dX8_readFrom_53 rfl ?_
          obtain ⟨N18, he19, h⟩ := h
          refine e_r_callV (a := 2) (av := [.inl 3, .inl (N13 2 6)]) (st := []) mqYX7_noteFlaw ml_RX8_67 cl_7 rfl (Nat.le_of_ble_eq_true rfl) (by simp [e_cat]) rfl rfl rfl dX8_readFrom_56 (pc' := 59) rfl he19 ⟨Nat.le_refl _, Nat.le_refl _⟩ hmo ?_
          exact h
theorem wp_X8_readFrom_townDraft_59 {X : e_X} {d gn : Nat} {o : e_O} (M : e_M) (v2 v3 : Int) (hmo : e_mn (557, gn, e_RF, M) o.2) (h : (∃ N1 : e_M, e_E X d YX8_readClause [.inr (.inr 12), .inr (.inr 2), .inl v3] (557, gn, e_RF, M) (.inl none, (557, gn, e_RF, N1)) ∧ (∃ N3 : e_M, e_E X d YX7_expectSign [.inr (.inr 2), .inl 59] (557, gn, e_RF, N1) (.inl none, (557, gn, e_RF, N3)) ∧ e_G X (d + 1) YX8_readFrom 17 [some (.inr (.inr 12)), some (.inr (.inr 2)), some (.inl (e_w (v2 + 1))), none] [] (557, gn, e_RF, N3) o))) : e_G X (d + 1) YX8_readFrom 59 [some (.inr (.inr 12)), some (.inr (.inr 2)), some (.inl v2), some (.inl v3)] [] (557, gn, e_RF, M) o := by
  refine e_r_aload_n (pc' := 60) (by decide) dX8_readFrom_59 rfl rfl rfl ?_
  refine e_r_aload_n (pc' := 61) (by decide) dX8_readFrom_60 rfl rfl rfl ?_
  refine e_r_iload_n (pc' := 62) dX8_readFrom_61 rfl rfl rfl ?_
  obtain ⟨N1, he2, h⟩ := h
  refine e_r_callV (a := 12) (av := [.inr (.inr 2), .inl v3]) (st := []) mqYX8_readClause ml_RX8_71 cl_8 rfl (Nat.le_of_ble_eq_true rfl) (by simp [e_cat]) rfl rfl rfl dX8_readFrom_62 (pc' := 65) rfl he2 ⟨Nat.le_refl _, Nat.le_refl _⟩ hmo ?_
  refine e_r_aload_n (pc' := 66) (by decide) dX8_readFrom_65 rfl rfl rfl ?_
  refine e_r_bipush (pc' := 68) dX8_readFrom_66 rfl (by decide) ?_
  obtain ⟨N3, he4, h⟩ := h
  refine e_r_callV (a := 2) (av := [.inl 59]) (st := []) mqYX7_expectSign ml_RX8_75 cl_7 rfl (Nat.le_of_ble_eq_true rfl) (by simp [e_cat]) rfl rfl rfl dX8_readFrom_68 (pc' := 71) rfl he4 ⟨Nat.le_refl _, Nat.le_refl _⟩ hmo ?_
  refine e_r_iinc (pc' := 74) (loc' := [some (.inr (.inr 12)), some (.inr (.inr 2)), some (.inl (e_w (v2 + 1))), some (.inl v3)]) dX8_readFrom_71 rfl rfl rfl rfl rfl ?_
  refine e_r_goto (pc' := 17) dX8_readFrom_74 rfl ?_
  exact e_forget (m := [true, true, true, false]) h rfl
theorem wp_X8_readClause_0 {X : e_X} {d gn : Nat} {o : e_O} (M : e_M) (p2 : Int) (hmo : e_mn (557, gn, e_RF, M) o.2) (h : ((p2 = 0 → (∃ N6 : e_M, e_E X d YX8_readPerson [.inr (.inr 12), .inr (.inr 2)] (557, gn, e_RF, M) (.inl none, (557, gn, e_RF, N6)) ∧ (o = (.inl none, (557, gn, e_RF, N6))))) ∧ (p2 = 1 → (∃ N8 : e_M, e_E X d YX8_readDuty [.inr (.inr 12), .inr (.inr 2)] (557, gn, e_RF, M) (.inl none, (557, gn, e_RF, N8)) ∧ (o = (.inl none, (557, gn, e_RF, N8))))) ∧ (p2 = 2 → (∃ N10 : e_M, e_E X d YX8_readSkill [.inr (.inr 12), .inr (.inr 2)] (557, gn, e_RF, M) (.inl none, (557, gn, e_RF, N10)) ∧ (o = (.inl none, (557, gn, e_RF, N10))))) ∧ (p2 = 3 → (∃ N12 : e_M, e_E X d YX8_readTask [.inr (.inr 12), .inr (.inr 2)] (557, gn, e_RF, M) (.inl none, (557, gn, e_RF, N12)) ∧ (o = (.inl none, (557, gn, e_RF, N12))))) ∧ (p2 < 0 ∨ 3 < p2 → (o = (.inl none, (557, gn, e_RF, M)))))) : e_G X (d + 1) YX8_readClause 0 [some (.inr (.inr 12)), some (.inr (.inr 2)), some (.inl p2)] [] (557, gn, e_RF, M) o := by
  refine e_r_iload_n (pc' := 1) dX8_readClause_0 rfl rfl rfl ?_
  obtain ⟨hk1, hk2, hk3, hk4, hd5⟩ := h
  refine e_r_table (tgt := 64) dX8_readClause_1 rfl (fun j => bif Nat.beq j 0 then 32 else bif Nat.beq j 1 then 40 else bif Nat.beq j 2 then 48 else 56) (fun j hj => ?_) (fun j ej hj => ?_) (fun c => ?_)
  · rcases (show j = 0 ∨ j = 1 ∨ j = 2 ∨ j = 3 by omega) with rfl | rfl | rfl | rfl
    · exact ⟨31, rfl, rfl⟩
    · exact ⟨39, rfl, rfl⟩
    · exact ⟨47, rfl, rfl⟩
    · exact ⟨55, rfl, rfl⟩
  · rcases (show j = 0 ∨ j = 1 ∨ j = 2 ∨ j = 3 by omega) with rfl | rfl | rfl | rfl
    · have h := hk1 (by omega)
      show e_G X (d + 1) YX8_readClause 32 [some (.inr (.inr 12)), some (.inr (.inr 2)), some (.inl p2)] [] (557, gn, e_RF, M) o
      refine e_r_aload_n (pc' := 33) (by decide) dX8_readClause_32 rfl rfl rfl ?_
      refine e_r_aload_n (pc' := 34) (by decide) dX8_readClause_33 rfl rfl rfl ?_
      obtain ⟨N6, he7, h⟩ := h
      refine e_r_callV (a := 12) (av := [.inr (.inr 2)]) (st := []) mqYX8_readPerson ml_RX8_79 cl_8 rfl (Nat.le_of_ble_eq_true rfl) (by simp [e_cat]) rfl rfl rfl dX8_readClause_34 (pc' := 37) rfl he7 ⟨Nat.le_refl _, Nat.le_refl _⟩ hmo ?_
      refine e_r_goto (pc' := 64) dX8_readClause_37 rfl ?_
      exact e_r_vret rfl dX8_readClause_64 h
    · have h := hk2 (by omega)
      show e_G X (d + 1) YX8_readClause 40 [some (.inr (.inr 12)), some (.inr (.inr 2)), some (.inl p2)] [] (557, gn, e_RF, M) o
      refine e_r_aload_n (pc' := 41) (by decide) dX8_readClause_40 rfl rfl rfl ?_
      refine e_r_aload_n (pc' := 42) (by decide) dX8_readClause_41 rfl rfl rfl ?_
      obtain ⟨N8, he9, h⟩ := h
      refine e_r_callV (a := 12) (av := [.inr (.inr 2)]) (st := []) mqYX8_readDuty ml_RX8_83 cl_8 rfl (Nat.le_of_ble_eq_true rfl) (by simp [e_cat]) rfl rfl rfl dX8_readClause_42 (pc' := 45) rfl he9 ⟨Nat.le_refl _, Nat.le_refl _⟩ hmo ?_
      refine e_r_goto (pc' := 64) dX8_readClause_45 rfl ?_
      exact e_r_vret rfl dX8_readClause_64 h
    · have h := hk3 (by omega)
      show e_G X (d + 1) YX8_readClause 48 [some (.inr (.inr 12)), some (.inr (.inr 2)), some (.inl p2)] [] (557, gn, e_RF, M) o
      refine e_r_aload_n (pc' := 49) (by decide) dX8_readClause_48 rfl rfl rfl ?_
      refine e_r_aload_n (pc' := 50) (by decide) dX8_readClause_49 rfl rfl rfl ?_
      obtain ⟨N10, he11, h⟩ := h
      refine e_r_callV (a := 12) (av := [.inr (.inr 2)]) (st := []) mqYX8_readSkill ml_RX8_86 cl_8 rfl (Nat.le_of_ble_eq_true rfl) (by simp [e_cat]) rfl rfl rfl dX8_readClause_50 (pc' := 53) rfl he11 ⟨Nat.le_refl _, Nat.le_refl _⟩ hmo ?_
      refine e_r_goto (pc' := 64) dX8_readClause_53 rfl ?_
      exact e_r_vret rfl dX8_readClause_64 h
    · have h := hk4 (by omega)
      show e_G X (d + 1) YX8_readClause 56 [some (.inr (.inr 12)), some (.inr (.inr 2)), some (.inl p2)] [] (557, gn, e_RF, M) o
      refine e_r_aload_n (pc' := 57) (by decide) dX8_readClause_56 rfl rfl rfl ?_
      refine e_r_aload_n (pc' := 58) (by decide) dX8_readClause_57 rfl rfl rfl ?_
      obtain ⟨N12, he13, h⟩ := h
      refine e_r_callV (a := 12) (av := [.inr (.inr 2)]) (st := []) mqYX8_readTask ml_RX8_89 cl_8 rfl (Nat.le_of_ble_eq_true rfl) (by simp [e_cat]) rfl rfl rfl dX8_readClause_58 (pc' := 61) rfl he13 ⟨Nat.le_refl _, Nat.le_refl _⟩ hmo ?_
      refine e_r_goto (pc' := 64) dX8_readClause_61 rfl ?_
      exact e_r_vret rfl dX8_readClause_64 h
  · have h := hd5 c
    exact e_r_vret rfl dX8_readClause_64 h
theorem wp_X8_readPerson_0 {X : e_X} {d gn : Nat} {o : e_O} (M : e_M) (hmo : e_mn (557, gn, e_RF, M) o.2) (h : (((M 12 0) < 6 → e_G X (d + 1) YX8_readPerson 18 [some (.inr (.inr 12)), some (.inr (.inr 2)), none, none] [] (557, gn, e_RF, M) o) ∧ (¬ ((M 12 0) < 6) → (∃ N3 : e_M, e_E X d YX7_noteFlaw [.inr (.inr 2), .inl 3, .inl (M 2 6)] (557, gn, e_RF, M) (.inl none, (557, gn, e_RF, N3)) ∧ e_G X (d + 1) YX8_readPerson 18 [some (.inr (.inr 12)), some (.inr (.inr 2)), none, none] [] (557, gn, e_RF, N3) o)))) : e_G X (d + 1) YX8_readPerson 0 [some (.inr (.inr 12)), some (.inr (.inr 2)), none, none] [] (557, gn, e_RF, M) o := by
  refine e_r_aload_n (pc' := 1) (by decide) dX8_readPerson_0 rfl rfl rfl ?_
  refine e_r_geti (k := 0) (pc' := 4) cl_8 rfl (Nat.le_of_ble_eq_true rfl) rfl rfl fl_RX8_9 dX8_readPerson_1 rfl ?_
  refine e_r_bipush (pc' := 6) dX8_readPerson_4 rfl (by decide) ?_
  obtain ⟨ht1, hf2⟩ := h
  refine e_r_icmp_lt (tgt := 18) (pc' := 9) dX8_readPerson_6 rfl rfl (fun c => ?_) (fun c => ?_)
  · have h := ht1 c
    exact h
  · have h := hf2 c
    refine e_r_aload_n (pc' := 10) (by decide) dX8_readPerson_9 rfl rfl rfl ?_
    refine e_r_iconst (pc' := 11) dX8_readPerson_10 rfl (by decide) ?_
    refine e_r_aload_n (pc' := 12) (by decide) dX8_readPerson_11 rfl rfl rfl ?_
    refine e_r_geti (k := 6) (pc' := 15) cl_7 rfl (Nat.le_of_ble_eq_true rfl) rfl rfl fl_RX8_64 dX8_readPerson_12 rfl ?_
    obtain ⟨N3, he4, h⟩ := h
    refine e_r_callV (a := 2) (av := [.inl 3, .inl (M 2 6)]) (st := []) mqYX7_noteFlaw ml_RX8_67 cl_7 rfl (Nat.le_of_ble_eq_true rfl) (by simp [e_cat]) rfl rfl rfl dX8_readPerson_15 (pc' := 18) rfl he4 ⟨Nat.le_refl _, Nat.le_refl _⟩ hmo ?_
    exact h
theorem wp_X8_readPerson_18 {X : e_X} {d gn : Nat} {o : e_O} (M : e_M) (hmo : e_mn (557, gn, e_RF, M) o.2) (h : (∃ (r2 : Int) (N1 : e_M), e_E X d YX7_readNumber [.inr (.inr 2), .inl 0, .inl 500] (557, gn, e_RF, M) (.inl (some (.inl r2)), (557, gn, e_RF, N1)) ∧ (∃ (r5 : Int) (N4 : e_M), e_E X d YX7_readNumber [.inr (.inr 2), .inl 0, .inl 30] (557, gn, e_RF, N1) (.inl (some (.inl r5)), (557, gn, e_RF, N4)) ∧ (∃ (r8 : Int) (N7 : e_M), e_E X d YX7_flawed [.inr (.inr 2)] (557, gn, e_RF, N4) (.inl (some (.inl r8)), (557, gn, e_RF, N7)) ∧ ((¬ r8 = 0 → (o = (.inl none, (557, gn, e_RF, N7)))) ∧ (r8 = 0 → ((0 ≤ (N7 12 0) ∧ (N7 12 0) < 6) ∧ ((0 ≤ ((e_up N7 13 (N7 12 0).toNat r2) 12 0) ∧ ((e_up N7 13 (N7 12 0).toNat r2) 12 0) < 6) ∧ ((0 ≤ ((e_up (e_up N7 13 (N7 12 0).toNat r2) 14 ((e_up N7 13 (N7 12 0).toNat r2) 12 0).toNat r5) 12 0) ∧ ((e_up (e_up N7 13 (N7 12 0).toNat r2) 14 ((e_up N7 13 (N7 12 0).toNat r2) 12 0).toNat r5) 12 0) < 6) ∧ (o = (.inl none, (557, gn, e_RF, (e_up (e_up (e_up (e_up N7 13 (N7 12 0).toNat r2) 14 ((e_up N7 13 (N7 12 0).toNat r2) 12 0).toNat r5) 15 ((e_up (e_up N7 13 (N7 12 0).toNat r2) 14 ((e_up N7 13 (N7 12 0).toNat r2) 12 0).toNat r5) 12 0).toNat 0) 12 0 (e_w (((e_up (e_up (e_up N7 13 (N7 12 0).toNat r2) 14 ((e_up N7 13 (N7 12 0).toNat r2) 12 0).toNat r5) 15 ((e_up (e_up N7 13 (N7 12 0).toNat r2) 14 ((e_up N7 13 (N7 12 0).toNat r2) 12 0).toNat r5) 12 0).toNat 0) 12 0) + 1))))))))))))))) : e_G X (d + 1) YX8_readPerson 18 [some (.inr (.inr 12)), some (.inr (.inr 2)), none, none] [] (557, gn, e_RF, M) o := by
  refine e_r_aload_n (pc' := 19) (by decide) dX8_readPerson_18 rfl rfl rfl ?_
  refine e_r_iconst (pc' := 20) dX8_readPerson_19 rfl (by decide) ?_
  refine e_r_sipush (pc' := 23) dX8_readPerson_20 rfl (by decide) ?_
  obtain ⟨r2, N1, he3, h⟩ := h
  refine e_r_callV (a := 2) (av := [.inl 0, .inl 500]) (st := []) mqYX7_readNumber ml_RX8_92 cl_7 rfl (Nat.le_of_ble_eq_true rfl) (by simp [e_cat]) rfl rfl rfl dX8_readPerson_23 (pc' := 26) rfl he3 ⟨Nat.le_refl _, Nat.le_refl _⟩ hmo ?_
  refine e_r_istore_n (pc' := 27) (loc' := [some (.inr (.inr 12)), some (.inr (.inr 2)), some (.inl r2), none]) dX8_readPerson_26 rfl rfl rfl rfl rfl ?_
  refine e_r_aload_n (pc' := 28) (by decide) dX8_readPerson_27 rfl rfl rfl ?_
  refine e_r_iconst (pc' := 29) dX8_readPerson_28 rfl (by decide) ?_
  refine e_r_bipush (pc' := 31) dX8_readPerson_29 rfl (by decide) ?_
  obtain ⟨r5, N4, he6, h⟩ := h
  refine e_r_callV (a := 2) (av := [.inl 0, .inl 30]) (st := []) mqYX7_readNumber ml_RX8_92 cl_7 rfl (Nat.le_of_ble_eq_true rfl) (by simp [e_cat]) rfl rfl rfl dX8_readPerson_31 (pc' := 34) rfl he6 ⟨Nat.le_refl _, Nat.le_refl _⟩ hmo ?_
  refine e_r_istore_n (pc' := 35) (loc' := [some (.inr (.inr 12)), some (.inr (.inr 2)), some (.inl r2), some (.inl r5)]) dX8_readPerson_34 rfl rfl rfl rfl rfl ?_
  refine e_r_aload_n (pc' := 36) (by decide) dX8_readPerson_35 rfl rfl rfl ?_
  obtain ⟨r8, N7, he9, h⟩ := h
  refine e_r_callV (a := 2) (av := []) (st := []) mqYX7_flawed ml_RX8_49 cl_7 rfl (Nat.le_of_ble_eq_true rfl) (by simp [e_cat]) rfl rfl rfl dX8_readPerson_36 (pc' := 39) rfl he9 ⟨Nat.le_refl _, Nat.le_refl _⟩ hmo ?_
  obtain ⟨ht10, hf11⟩ := h
  refine e_r_if_ne (tgt := 82) (pc' := 42) dX8_readPerson_39 rfl rfl (fun c => ?_) (fun c => ?_)
  · have h := ht10 c
    exact e_r_vret rfl dX8_readPerson_82 h
  · have h := hf11 c
    refine e_r_aload_n (pc' := 43) (by decide) dX8_readPerson_42 rfl rfl rfl ?_
    refine e_r_getr (k := 3) (q := 13) (pc' := 46) cl_8 rfl (Nat.le_of_ble_eq_true rfl) rfl rfl fl_RX8_21 rfl (Nat.le_of_ble_eq_true rfl) dX8_readPerson_43 rfl ?_
    refine e_r_aload_n (pc' := 47) (by decide) dX8_readPerson_46 rfl rfl rfl ?_
    refine e_r_geti (k := 0) (pc' := 50) cl_8 rfl (Nat.le_of_ble_eq_true rfl) rfl rfl fl_RX8_9 dX8_readPerson_47 rfl ?_
    refine e_r_iload_n (pc' := 51) dX8_readPerson_50 rfl rfl rfl ?_
    obtain ⟨hb12, h⟩ := h
    refine e_r_iast (j9 := (N7 12 0).toNat) (pc' := 52) rfl (Nat.le_of_ble_eq_true rfl) hb12.1 hb12.2 rfl dX8_readPerson_51 rfl ?_
    refine e_r_aload_n (pc' := 53) (by decide) dX8_readPerson_52 rfl rfl rfl ?_
    refine e_r_getr (k := 4) (q := 14) (pc' := 56) cl_8 rfl (Nat.le_of_ble_eq_true rfl) rfl rfl fl_RX8_25 rfl (Nat.le_of_ble_eq_true rfl) dX8_readPerson_53 rfl ?_
    refine e_r_aload_n (pc' := 57) (by decide) dX8_readPerson_56 rfl rfl rfl ?_
    refine e_r_geti (k := 0) (pc' := 60) cl_8 rfl (Nat.le_of_ble_eq_true rfl) rfl rfl fl_RX8_9 dX8_readPerson_57 rfl ?_
    refine e_r_iload_n (pc' := 61) dX8_readPerson_60 rfl rfl rfl ?_
    obtain ⟨hb13, h⟩ := h
    refine e_r_iast (j9 := ((e_up N7 13 (N7 12 0).toNat r2) 12 0).toNat) (pc' := 62) rfl (Nat.le_of_ble_eq_true rfl) hb13.1 hb13.2 rfl dX8_readPerson_61 rfl ?_
    refine e_r_aload_n (pc' := 63) (by decide) dX8_readPerson_62 rfl rfl rfl ?_
    refine e_r_getr (k := 5) (q := 15) (pc' := 66) cl_8 rfl (Nat.le_of_ble_eq_true rfl) rfl rfl fl_RX8_28 rfl (Nat.le_of_ble_eq_true rfl) dX8_readPerson_63 rfl ?_
    refine e_r_aload_n (pc' := 67) (by decide) dX8_readPerson_66 rfl rfl rfl ?_
    refine e_r_geti (k := 0) (pc' := 70) cl_8 rfl (Nat.le_of_ble_eq_true rfl) rfl rfl fl_RX8_9 dX8_readPerson_67 rfl ?_
    refine e_r_iconst (pc' := 71) dX8_readPerson_70 rfl (by decide) ?_
    obtain ⟨hb14, h⟩ := h
    refine e_r_iast (j9 := ((e_up (e_up N7 13 (N7 12 0).toNat r2) 14 ((e_up N7 13 (N7 12 0).toNat r2) 12 0).toNat r5) 12 0).toNat) (pc' := 72) rfl (Nat.le_of_ble_eq_true rfl) hb14.1 hb14.2 rfl dX8_readPerson_71 rfl ?_
    refine e_r_aload_n (pc' := 73) (by decide) dX8_readPerson_72 rfl rfl rfl ?_
    refine e_r_dup (pc' := 74) rfl dX8_readPerson_73 rfl ?_
    refine e_r_geti (k := 0) (pc' := 77) cl_8 rfl (Nat.le_of_ble_eq_true rfl) rfl rfl fl_RX8_9 dX8_readPerson_74 rfl ?_
    refine e_r_iconst (pc' := 78) dX8_readPerson_77 rfl (by decide) ?_
    refine e_r_iadd (pc' := 79) dX8_readPerson_78 rfl ?_
    refine e_r_puti (k := 0) (pc' := 82) cl_8 rfl (Nat.le_of_ble_eq_true rfl) rfl rfl fl_RX8_9 rfl (by decide +kernel) dX8_readPerson_79 rfl ?_
    exact e_r_vret rfl dX8_readPerson_82 h
theorem wp_X8_readDuty_0 {X : e_X} {d gn : Nat} {o : e_O} (M : e_M) (hmo : e_mn (557, gn, e_RF, M) o.2) (h : (((M 12 1) < 6 → e_G X (d + 1) YX8_readDuty 18 [some (.inr (.inr 12)), some (.inr (.inr 2)), none] [] (557, gn, e_RF, M) o) ∧ (¬ ((M 12 1) < 6) → (∃ N3 : e_M, e_E X d YX7_noteFlaw [.inr (.inr 2), .inl 3, .inl (M 2 6)] (557, gn, e_RF, M) (.inl none, (557, gn, e_RF, N3)) ∧ e_G X (d + 1) YX8_readDuty 18 [some (.inr (.inr 12)), some (.inr (.inr 2)), none] [] (557, gn, e_RF, N3) o)))) : e_G X (d + 1) YX8_readDuty 0 [some (.inr (.inr 12)), some (.inr (.inr 2)), none] [] (557, gn, e_RF, M) o := by
  refine e_r_aload_n (pc' := 1) (by decide) dX8_readDuty_0 rfl rfl rfl ?_
  refine e_r_geti (k := 1) (pc' := 4) cl_8 rfl (Nat.le_of_ble_eq_true rfl) rfl rfl fl_RX8_15 dX8_readDuty_1 rfl ?_
  refine e_r_bipush (pc' := 6) dX8_readDuty_4 rfl (by decide) ?_
  obtain ⟨ht1, hf2⟩ := h
  refine e_r_icmp_lt (tgt := 18) (pc' := 9) dX8_readDuty_6 rfl rfl (fun c => ?_) (fun c => ?_)
  · have h := ht1 c
    exact h
  · have h := hf2 c
    refine e_r_aload_n (pc' := 10) (by decide) dX8_readDuty_9 rfl rfl rfl ?_
    refine e_r_iconst (pc' := 11) dX8_readDuty_10 rfl (by decide) ?_
    refine e_r_aload_n (pc' := 12) (by decide) dX8_readDuty_11 rfl rfl rfl ?_
    refine e_r_geti (k := 6) (pc' := 15) cl_7 rfl (Nat.le_of_ble_eq_true rfl) rfl rfl fl_RX8_64 dX8_readDuty_12 rfl ?_
    obtain ⟨N3, he4, h⟩ := h
    refine e_r_callV (a := 2) (av := [.inl 3, .inl (M 2 6)]) (st := []) mqYX7_noteFlaw ml_RX8_67 cl_7 rfl (Nat.le_of_ble_eq_true rfl) (by simp [e_cat]) rfl rfl rfl dX8_readDuty_15 (pc' := 18) rfl he4 ⟨Nat.le_refl _, Nat.le_refl _⟩ hmo ?_
    exact h
theorem wp_X8_readDuty_18 {X : e_X} {d gn : Nat} {o : e_O} (M : e_M) (hmo : e_mn (557, gn, e_RF, M) o.2) (h : (∃ (r2 : Int) (N1 : e_M), e_E X d YX7_readNumber [.inr (.inr 2), .inl 1, .inl 30] (557, gn, e_RF, M) (.inl (some (.inl r2)), (557, gn, e_RF, N1)) ∧ (∃ (r5 : Int) (N4 : e_M), e_E X d YX7_flawed [.inr (.inr 2)] (557, gn, e_RF, N1) (.inl (some (.inl r5)), (557, gn, e_RF, N4)) ∧ ((¬ r5 = 0 → (o = (.inl none, (557, gn, e_RF, N4)))) ∧ (r5 = 0 → ((0 ≤ (N4 12 1) ∧ (N4 12 1) < 6) ∧ (o = (.inl none, (557, gn, e_RF, (e_up (e_up N4 16 (N4 12 1).toNat r2) 12 1 (e_w (((e_up N4 16 (N4 12 1).toNat r2) 12 1) + 1)))))))))))) : e_G X (d + 1) YX8_readDuty 18 [some (.inr (.inr 12)), some (.inr (.inr 2)), none] [] (557, gn, e_RF, M) o := by
  refine e_r_aload_n (pc' := 19) (by decide) dX8_readDuty_18 rfl rfl rfl ?_
  refine e_r_iconst (pc' := 20) dX8_readDuty_19 rfl (by decide) ?_
  refine e_r_bipush (pc' := 22) dX8_readDuty_20 rfl (by decide) ?_
  obtain ⟨r2, N1, he3, h⟩ := h
  refine e_r_callV (a := 2) (av := [.inl 1, .inl 30]) (st := []) mqYX7_readNumber ml_RX8_92 cl_7 rfl (Nat.le_of_ble_eq_true rfl) (by simp [e_cat]) rfl rfl rfl dX8_readDuty_22 (pc' := 25) rfl he3 ⟨Nat.le_refl _, Nat.le_refl _⟩ hmo ?_
  refine e_r_istore_n (pc' := 26) (loc' := [some (.inr (.inr 12)), some (.inr (.inr 2)), some (.inl r2)]) dX8_readDuty_25 rfl rfl rfl rfl rfl ?_
  refine e_r_aload_n (pc' := 27) (by decide) dX8_readDuty_26 rfl rfl rfl ?_
  obtain ⟨r5, N4, he6, h⟩ := h
  refine e_r_callV (a := 2) (av := []) (st := []) mqYX7_flawed ml_RX8_49 cl_7 rfl (Nat.le_of_ble_eq_true rfl) (by simp [e_cat]) rfl rfl rfl dX8_readDuty_27 (pc' := 30) rfl he6 ⟨Nat.le_refl _, Nat.le_refl _⟩ hmo ?_
  obtain ⟨ht7, hf8⟩ := h
  refine e_r_if_ne (tgt := 53) (pc' := 33) dX8_readDuty_30 rfl rfl (fun c => ?_) (fun c => ?_)
  · have h := ht7 c
    exact e_r_vret rfl dX8_readDuty_53 h
  · have h := hf8 c
    refine e_r_aload_n (pc' := 34) (by decide) dX8_readDuty_33 rfl rfl rfl ?_
    refine e_r_getr (k := 6) (q := 16) (pc' := 37) cl_8 rfl (Nat.le_of_ble_eq_true rfl) rfl rfl fl_RX8_31 rfl (Nat.le_of_ble_eq_true rfl) dX8_readDuty_34 rfl ?_
    refine e_r_aload_n (pc' := 38) (by decide) dX8_readDuty_37 rfl rfl rfl ?_
    refine e_r_geti (k := 1) (pc' := 41) cl_8 rfl (Nat.le_of_ble_eq_true rfl) rfl rfl fl_RX8_15 dX8_readDuty_38 rfl ?_
    refine e_r_iload_n (pc' := 42) dX8_readDuty_41 rfl rfl rfl ?_
    obtain ⟨hb9, h⟩ := h
    refine e_r_iast (j9 := (N4 12 1).toNat) (pc' := 43) rfl (Nat.le_of_ble_eq_true rfl) hb9.1 hb9.2 rfl dX8_readDuty_42 rfl ?_
    refine e_r_aload_n (pc' := 44) (by decide) dX8_readDuty_43 rfl rfl rfl ?_
    refine e_r_dup (pc' := 45) rfl dX8_readDuty_44 rfl ?_
    refine e_r_geti (k := 1) (pc' := 48) cl_8 rfl (Nat.le_of_ble_eq_true rfl) rfl rfl fl_RX8_15 dX8_readDuty_45 rfl ?_
    refine e_r_iconst (pc' := 49) dX8_readDuty_48 rfl (by decide) ?_
    refine e_r_iadd (pc' := 50) dX8_readDuty_49 rfl ?_
    refine e_r_puti (k := 1) (pc' := 53) cl_8 rfl (Nat.le_of_ble_eq_true rfl) rfl rfl fl_RX8_15 rfl (by decide +kernel) dX8_readDuty_50 rfl ?_
    exact e_r_vret rfl dX8_readDuty_53 h
theorem wp_X8_readSkill_0 {X : e_X} {d gn : Nat} {o : e_O} (M : e_M) (hmo : e_mn (557, gn, e_RF, M) o.2) (h : (∃ (r2 : Int) (N1 : e_M), e_E X d YX7_readNumber [.inr (.inr 2), .inl 0, .inl (e_w ((M 12 0) - 1))] (557, gn, e_RF, M) (.inl (some (.inl r2)), (557, gn, e_RF, N1)) ∧ (∃ (r5 : Int) (N4 : e_M), e_E X d YX7_readNumber [.inr (.inr 2), .inl 0, .inl (e_w ((N1 12 1) - 1))] (557, gn, e_RF, N1) (.inl (some (.inl r5)), (557, gn, e_RF, N4)) ∧ (∃ (r8 : Int) (N7 : e_M), e_E X d YX7_flawed [.inr (.inr 2)] (557, gn, e_RF, N4) (.inl (some (.inl r8)), (557, gn, e_RF, N7)) ∧ ((¬ r8 = 0 → (o = (.inl none, (557, gn, e_RF, N7)))) ∧ (r8 = 0 → ((0 ≤ r2 ∧ r2 < 6) ∧ ((0 ≤ r2 ∧ r2 < 6) ∧ (o = (.inl none, (557, gn, e_RF, (e_up N7 15 r2.toNat (e_or (N7 15 r2.toNat) (e_shl 1 r5)))))))))))))) : e_G X (d + 1) YX8_readSkill 0 [some (.inr (.inr 12)), some (.inr (.inr 2)), none, none] [] (557, gn, e_RF, M) o := by
  refine e_r_aload_n (pc' := 1) (by decide) dX8_readSkill_0 rfl rfl rfl ?_
  refine e_r_iconst (pc' := 2) dX8_readSkill_1 rfl (by decide) ?_
  refine e_r_aload_n (pc' := 3) (by decide) dX8_readSkill_2 rfl rfl rfl ?_
  refine e_r_geti (k := 0) (pc' := 6) cl_8 rfl (Nat.le_of_ble_eq_true rfl) rfl rfl fl_RX8_9 dX8_readSkill_3 rfl ?_
  refine e_r_iconst (pc' := 7) dX8_readSkill_6 rfl (by decide) ?_
  refine e_r_isub (pc' := 8) dX8_readSkill_7 rfl ?_
  obtain ⟨r2, N1, he3, h⟩ := h
  refine e_r_callV (a := 2) (av := [.inl 0, .inl (e_w ((M 12 0) - 1))]) (st := []) mqYX7_readNumber ml_RX8_92 cl_7 rfl (Nat.le_of_ble_eq_true rfl) (by simp [e_cat]) rfl rfl rfl dX8_readSkill_8 (pc' := 11) rfl he3 ⟨Nat.le_refl _, Nat.le_refl _⟩ hmo ?_
  refine e_r_istore_n (pc' := 12) (loc' := [some (.inr (.inr 12)), some (.inr (.inr 2)), some (.inl r2), none]) dX8_readSkill_11 rfl rfl rfl rfl rfl ?_
  refine e_r_aload_n (pc' := 13) (by decide) dX8_readSkill_12 rfl rfl rfl ?_
  refine e_r_iconst (pc' := 14) dX8_readSkill_13 rfl (by decide) ?_
  refine e_r_aload_n (pc' := 15) (by decide) dX8_readSkill_14 rfl rfl rfl ?_
  refine e_r_geti (k := 1) (pc' := 18) cl_8 rfl (Nat.le_of_ble_eq_true rfl) rfl rfl fl_RX8_15 dX8_readSkill_15 rfl ?_
  refine e_r_iconst (pc' := 19) dX8_readSkill_18 rfl (by decide) ?_
  refine e_r_isub (pc' := 20) dX8_readSkill_19 rfl ?_
  obtain ⟨r5, N4, he6, h⟩ := h
  refine e_r_callV (a := 2) (av := [.inl 0, .inl (e_w ((N1 12 1) - 1))]) (st := []) mqYX7_readNumber ml_RX8_92 cl_7 rfl (Nat.le_of_ble_eq_true rfl) (by simp [e_cat]) rfl rfl rfl dX8_readSkill_20 (pc' := 23) rfl he6 ⟨Nat.le_refl _, Nat.le_refl _⟩ hmo ?_
  refine e_r_istore_n (pc' := 24) (loc' := [some (.inr (.inr 12)), some (.inr (.inr 2)), some (.inl r2), some (.inl r5)]) dX8_readSkill_23 rfl rfl rfl rfl rfl ?_
  refine e_r_aload_n (pc' := 25) (by decide) dX8_readSkill_24 rfl rfl rfl ?_
  obtain ⟨r8, N7, he9, h⟩ := h
  refine e_r_callV (a := 2) (av := []) (st := []) mqYX7_flawed ml_RX8_49 cl_7 rfl (Nat.le_of_ble_eq_true rfl) (by simp [e_cat]) rfl rfl rfl dX8_readSkill_25 (pc' := 28) rfl he9 ⟨Nat.le_refl _, Nat.le_refl _⟩ hmo ?_
  obtain ⟨ht10, hf11⟩ := h
  refine e_r_if_ne (tgt := 43) (pc' := 31) dX8_readSkill_28 rfl rfl (fun c => ?_) (fun c => ?_)
  · have h := ht10 c
    exact e_r_vret rfl dX8_readSkill_43 h
  · have h := hf11 c
    refine e_r_aload_n (pc' := 32) (by decide) dX8_readSkill_31 rfl rfl rfl ?_
    refine e_r_getr (k := 5) (q := 15) (pc' := 35) cl_8 rfl (Nat.le_of_ble_eq_true rfl) rfl rfl fl_RX8_28 rfl (Nat.le_of_ble_eq_true rfl) dX8_readSkill_32 rfl ?_
    refine e_r_iload_n (pc' := 36) dX8_readSkill_35 rfl rfl rfl ?_
    refine e_r_dup2 (pc' := 37) rfl rfl dX8_readSkill_36 rfl ?_
    obtain ⟨hb12, h⟩ := h
    refine e_r_iald (j9 := r2.toNat) (pc' := 38) rfl (Nat.le_of_ble_eq_true rfl) hb12.1 hb12.2 rfl dX8_readSkill_37 rfl ?_
    refine e_r_iconst (pc' := 39) dX8_readSkill_38 rfl (by decide) ?_
    refine e_r_iload_n (pc' := 40) dX8_readSkill_39 rfl rfl rfl ?_
    refine e_r_ishl (pc' := 41) dX8_readSkill_40 rfl ?_
    refine e_r_ior (pc' := 42) dX8_readSkill_41 rfl ?_
    obtain ⟨hb13, h⟩ := h
    refine e_r_iast (j9 := r2.toNat) (pc' := 43) rfl (Nat.le_of_ble_eq_true rfl) hb13.1 hb13.2 rfl dX8_readSkill_42 rfl ?_
    exact e_r_vret rfl dX8_readSkill_43 h
theorem wp_X8_readTask_0 {X : e_X} {d gn : Nat} {o : e_O} (M : e_M) (hmo : e_mn (557, gn, e_RF, M) o.2) (h : (((M 12 2) < 12 → e_G X (d + 1) YX8_readTask 18 [some (.inr (.inr 12)), some (.inr (.inr 2)), none, none, none] [] (557, gn, e_RF, M) o) ∧ (¬ ((M 12 2) < 12) → (∃ N3 : e_M, e_E X d YX7_noteFlaw [.inr (.inr 2), .inl 3, .inl (M 2 6)] (557, gn, e_RF, M) (.inl none, (557, gn, e_RF, N3)) ∧ e_G X (d + 1) YX8_readTask 18 [some (.inr (.inr 12)), some (.inr (.inr 2)), none, none, none] [] (557, gn, e_RF, N3) o)))) : e_G X (d + 1) YX8_readTask 0 [some (.inr (.inr 12)), some (.inr (.inr 2)), none, none, none] [] (557, gn, e_RF, M) o := by
  refine e_r_aload_n (pc' := 1) (by decide) dX8_readTask_0 rfl rfl rfl ?_
  refine e_r_geti (k := 2) (pc' := 4) cl_8 rfl (Nat.le_of_ble_eq_true rfl) rfl rfl fl_RX8_18 dX8_readTask_1 rfl ?_
  refine e_r_bipush (pc' := 6) dX8_readTask_4 rfl (by decide) ?_
  obtain ⟨ht1, hf2⟩ := h
  refine e_r_icmp_lt (tgt := 18) (pc' := 9) dX8_readTask_6 rfl rfl (fun c => ?_) (fun c => ?_)
  · have h := ht1 c
    exact h
  · have h := hf2 c
    refine e_r_aload_n (pc' := 10) (by decide) dX8_readTask_9 rfl rfl rfl ?_
    refine e_r_iconst (pc' := 11) dX8_readTask_10 rfl (by decide) ?_
    refine e_r_aload_n (pc' := 12) (by decide) dX8_readTask_11 rfl rfl rfl ?_
    refine e_r_geti (k := 6) (pc' := 15) cl_7 rfl (Nat.le_of_ble_eq_true rfl) rfl rfl fl_RX8_64 dX8_readTask_12 rfl ?_
    obtain ⟨N3, he4, h⟩ := h
    refine e_r_callV (a := 2) (av := [.inl 3, .inl (M 2 6)]) (st := []) mqYX7_noteFlaw ml_RX8_67 cl_7 rfl (Nat.le_of_ble_eq_true rfl) (by simp [e_cat]) rfl rfl rfl dX8_readTask_15 (pc' := 18) rfl he4 ⟨Nat.le_refl _, Nat.le_refl _⟩ hmo ?_
    exact h
theorem wp_X8_readTask_18 {X : e_X} {d gn : Nat} {o : e_O} (M : e_M) (hmo : e_mn (557, gn, e_RF, M) o.2) (h : (∃ (r2 : Int) (N1 : e_M), e_E X d YX7_readNumber [.inr (.inr 2), .inl 0, .inl (e_w ((M 12 0) - 1))] (557, gn, e_RF, M) (.inl (some (.inl r2)), (557, gn, e_RF, N1)) ∧ (∃ (r5 : Int) (N4 : e_M), e_E X d YX7_readNumber [.inr (.inr 2), .inl 0, .inl 60] (557, gn, e_RF, N1) (.inl (some (.inl r5)), (557, gn, e_RF, N4)) ∧ (∃ (r8 : Int) (N7 : e_M), e_E X d YX7_readNumber [.inr (.inr 2), .inl 0, .inl 60] (557, gn, e_RF, N4) (.inl (some (.inl r8)), (557, gn, e_RF, N7)) ∧ (∃ (r11 : Int) (N10 : e_M), e_E X d YX7_flawed [.inr (.inr 2)] (557, gn, e_RF, N7) (.inl (some (.inl r11)), (557, gn, e_RF, N10)) ∧ ((¬ r11 = 0 → (o = (.inl none, (557, gn, e_RF, N10)))) ∧ (r11 = 0 → ((0 ≤ (N10 12 2) ∧ (N10 12 2) < 12) ∧ ((0 ≤ ((e_up N10 17 (N10 12 2).toNat r2) 12 2) ∧ ((e_up N10 17 (N10 12 2).toNat r2) 12 2) < 12) ∧ ((0 ≤ ((e_up (e_up N10 17 (N10 12 2).toNat r2) 18 ((e_up N10 17 (N10 12 2).toNat r2) 12 2).toNat r5) 12 2) ∧ ((e_up (e_up N10 17 (N10 12 2).toNat r2) 18 ((e_up N10 17 (N10 12 2).toNat r2) 12 2).toNat r5) 12 2) < 12) ∧ (o = (.inl none, (557, gn, e_RF, (e_up (e_up (e_up (e_up N10 17 (N10 12 2).toNat r2) 18 ((e_up N10 17 (N10 12 2).toNat r2) 12 2).toNat r5) 19 ((e_up (e_up N10 17 (N10 12 2).toNat r2) 18 ((e_up N10 17 (N10 12 2).toNat r2) 12 2).toNat r5) 12 2).toNat r8) 12 2 (e_w (((e_up (e_up (e_up N10 17 (N10 12 2).toNat r2) 18 ((e_up N10 17 (N10 12 2).toNat r2) 12 2).toNat r5) 19 ((e_up (e_up N10 17 (N10 12 2).toNat r2) 18 ((e_up N10 17 (N10 12 2).toNat r2) 12 2).toNat r5) 12 2).toNat r8) 12 2) + 1)))))))))))))))) : e_G X (d + 1) YX8_readTask 18 [some (.inr (.inr 12)), some (.inr (.inr 2)), none, none, none] [] (557, gn, e_RF, M) o := by
  refine e_r_aload_n (pc' := 19) (by decide) dX8_readTask_18 rfl rfl rfl ?_
  refine e_r_iconst (pc' := 20) dX8_readTask_19 rfl (by decide) ?_
  refine e_r_aload_n (pc' := 21) (by decide) dX8_readTask_20 rfl rfl rfl ?_
  refine e_r_geti (k := 0) (pc' := 24) cl_8 rfl (Nat.le_of_ble_eq_true rfl) rfl rfl fl_RX8_9 dX8_readTask_21 rfl ?_
  refine e_r_iconst (pc' := 25) dX8_readTask_24 rfl (by decide) ?_
  refine e_r_isub (pc' := 26) dX8_readTask_25 rfl ?_
  obtain ⟨r2, N1, he3, h⟩ := h
  refine e_r_callV (a := 2) (av := [.inl 0, .inl (e_w ((M 12 0) - 1))]) (st := []) mqYX7_readNumber ml_RX8_92 cl_7 rfl (Nat.le_of_ble_eq_true rfl) (by simp [e_cat]) rfl rfl rfl dX8_readTask_26 (pc' := 29) rfl he3 ⟨Nat.le_refl _, Nat.le_refl _⟩ hmo ?_
  refine e_r_istore_n (pc' := 30) (loc' := [some (.inr (.inr 12)), some (.inr (.inr 2)), some (.inl r2), none, none]) dX8_readTask_29 rfl rfl rfl rfl rfl ?_
  refine e_r_aload_n (pc' := 31) (by decide) dX8_readTask_30 rfl rfl rfl ?_
  refine e_r_iconst (pc' := 32) dX8_readTask_31 rfl (by decide) ?_
  refine e_r_bipush (pc' := 34) dX8_readTask_32 rfl (by decide) ?_
  obtain ⟨r5, N4, he6, h⟩ := h
  refine e_r_callV (a := 2) (av := [.inl 0, .inl 60]) (st := []) mqYX7_readNumber ml_RX8_92 cl_7 rfl (Nat.le_of_ble_eq_true rfl) (by simp [e_cat]) rfl rfl rfl dX8_readTask_34 (pc' := 37) rfl he6 ⟨Nat.le_refl _, Nat.le_refl _⟩ hmo ?_
  refine e_r_istore_n (pc' := 38) (loc' := [some (.inr (.inr 12)), some (.inr (.inr 2)), some (.inl r2), some (.inl r5), none]) dX8_readTask_37 rfl rfl rfl rfl rfl ?_
  refine e_r_aload_n (pc' := 39) (by decide) dX8_readTask_38 rfl rfl rfl ?_
  refine e_r_iconst (pc' := 40) dX8_readTask_39 rfl (by decide) ?_
  refine e_r_bipush (pc' := 42) dX8_readTask_40 rfl (by decide) ?_
  obtain ⟨r8, N7, he9, h⟩ := h
  refine e_r_callV (a := 2) (av := [.inl 0, .inl 60]) (st := []) mqYX7_readNumber ml_RX8_92 cl_7 rfl (Nat.le_of_ble_eq_true rfl) (by simp [e_cat]) rfl rfl rfl dX8_readTask_42 (pc' := 45) rfl he9 ⟨Nat.le_refl _, Nat.le_refl _⟩ hmo ?_
  refine e_r_istore (pc' := 47) (loc' := [some (.inr (.inr 12)), some (.inr (.inr 2)), some (.inl r2), some (.inl r5), some (.inl r8)]) dX8_readTask_45 rfl rfl rfl rfl ?_
  refine e_r_aload_n (pc' := 48) (by decide) dX8_readTask_47 rfl rfl rfl ?_
  obtain ⟨r11, N10, he12, h⟩ := h
  refine e_r_callV (a := 2) (av := []) (st := []) mqYX7_flawed ml_RX8_49 cl_7 rfl (Nat.le_of_ble_eq_true rfl) (by simp [e_cat]) rfl rfl rfl dX8_readTask_48 (pc' := 51) rfl he12 ⟨Nat.le_refl _, Nat.le_refl _⟩ hmo ?_
  obtain ⟨ht13, hf14⟩ := h
  refine e_r_if_ne (tgt := 95) (pc' := 54) dX8_readTask_51 rfl rfl (fun c => ?_) (fun c => ?_)
  · have h := ht13 c
    exact e_r_vret rfl dX8_readTask_95 h
  · have h := hf14 c
    refine e_r_aload_n (pc' := 55) (by decide) dX8_readTask_54 rfl rfl rfl ?_
    refine e_r_getr (k := 7) (q := 17) (pc' := 58) cl_8 rfl (Nat.le_of_ble_eq_true rfl) rfl rfl fl_RX8_34 rfl (Nat.le_of_ble_eq_true rfl) dX8_readTask_55 rfl ?_
    refine e_r_aload_n (pc' := 59) (by decide) dX8_readTask_58 rfl rfl rfl ?_
    refine e_r_geti (k := 2) (pc' := 62) cl_8 rfl (Nat.le_of_ble_eq_true rfl) rfl rfl fl_RX8_18 dX8_readTask_59 rfl ?_
    refine e_r_iload_n (pc' := 63) dX8_readTask_62 rfl rfl rfl ?_
    obtain ⟨hb15, h⟩ := h
    refine e_r_iast (j9 := (N10 12 2).toNat) (pc' := 64) rfl (Nat.le_of_ble_eq_true rfl) hb15.1 hb15.2 rfl dX8_readTask_63 rfl ?_
    refine e_r_aload_n (pc' := 65) (by decide) dX8_readTask_64 rfl rfl rfl ?_
    refine e_r_getr (k := 8) (q := 18) (pc' := 68) cl_8 rfl (Nat.le_of_ble_eq_true rfl) rfl rfl fl_RX8_37 rfl (Nat.le_of_ble_eq_true rfl) dX8_readTask_65 rfl ?_
    refine e_r_aload_n (pc' := 69) (by decide) dX8_readTask_68 rfl rfl rfl ?_
    refine e_r_geti (k := 2) (pc' := 72) cl_8 rfl (Nat.le_of_ble_eq_true rfl) rfl rfl fl_RX8_18 dX8_readTask_69 rfl ?_
    refine e_r_iload_n (pc' := 73) dX8_readTask_72 rfl rfl rfl ?_
    obtain ⟨hb16, h⟩ := h
    refine e_r_iast (j9 := ((e_up N10 17 (N10 12 2).toNat r2) 12 2).toNat) (pc' := 74) rfl (Nat.le_of_ble_eq_true rfl) hb16.1 hb16.2 rfl dX8_readTask_73 rfl ?_
    refine e_r_aload_n (pc' := 75) (by decide) dX8_readTask_74 rfl rfl rfl ?_
    refine e_r_getr (k := 9) (q := 19) (pc' := 78) cl_8 rfl (Nat.le_of_ble_eq_true rfl) rfl rfl fl_RX8_40 rfl (Nat.le_of_ble_eq_true rfl) dX8_readTask_75 rfl ?_
    refine e_r_aload_n (pc' := 79) (by decide) dX8_readTask_78 rfl rfl rfl ?_
    refine e_r_geti (k := 2) (pc' := 82) cl_8 rfl (Nat.le_of_ble_eq_true rfl) rfl rfl fl_RX8_18 dX8_readTask_79 rfl ?_
    refine e_r_iload (pc' := 84) dX8_readTask_82 rfl rfl ?_
    obtain ⟨hb17, h⟩ := h
    refine e_r_iast (j9 := ((e_up (e_up N10 17 (N10 12 2).toNat r2) 18 ((e_up N10 17 (N10 12 2).toNat r2) 12 2).toNat r5) 12 2).toNat) (pc' := 85) rfl (Nat.le_of_ble_eq_true rfl) hb17.1 hb17.2 rfl dX8_readTask_84 rfl ?_
    refine e_r_aload_n (pc' := 86) (by decide) dX8_readTask_85 rfl rfl rfl ?_
    refine e_r_dup (pc' := 87) rfl dX8_readTask_86 rfl ?_
    refine e_r_geti (k := 2) (pc' := 90) cl_8 rfl (Nat.le_of_ble_eq_true rfl) rfl rfl fl_RX8_18 dX8_readTask_87 rfl ?_
    refine e_r_iconst (pc' := 91) dX8_readTask_90 rfl (by decide) ?_
    refine e_r_iadd (pc' := 92) dX8_readTask_91 rfl ?_
    refine e_r_puti (k := 2) (pc' := 95) cl_8 rfl (Nat.le_of_ble_eq_true rfl) rfl rfl fl_RX8_18 rfl (by decide +kernel) dX8_readTask_92 rfl ?_
    exact e_r_vret rfl dX8_readTask_95 h
