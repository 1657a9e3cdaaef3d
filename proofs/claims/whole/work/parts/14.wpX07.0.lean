theorem wp_X7_hasRoomFor_0 {X : e_X} {d gn : Nat} {o : e_O} (M : e_M) (p1 : Int) (h : ((600 < (e_w ((M 2 1) + p1)) → (o = (.inl (some (.inl 0)), (557, gn, e_RF, M)))) ∧ (¬ (600 < (e_w ((M 2 1) + p1))) → (o = (.inl (some (.inl 1)), (557, gn, e_RF, M)))))) : e_G X d YX7_hasRoomFor 0 [some (.inr (.inr 2)), some (.inl p1)] [] (557, gn, e_RF, M) o := by
  refine e_r_aload_n (pc' := 1) (by decide) dX7_hasRoomFor_0 rfl rfl rfl ?_
  refine e_r_geti (k := 1) (pc' := 4) cl_7 rfl (Nat.le_of_ble_eq_true rfl) rfl rfl fl_RX7_15 dX7_hasRoomFor_1 rfl ?_
  refine e_r_iload_n (pc' := 5) dX7_hasRoomFor_4 rfl rfl rfl ?_
  refine e_r_iadd (pc' := 6) dX7_hasRoomFor_5 rfl ?_
  refine e_r_sipush (pc' := 9) dX7_hasRoomFor_6 rfl (by decide) ?_
  obtain ⟨ht1, hf2⟩ := h
  refine e_r_icmp_gt (tgt := 16) (pc' := 12) dX7_hasRoomFor_9 rfl rfl (fun c => ?_) (fun c => ?_)
  · have h := ht1 c
    refine e_r_iconst (pc' := 17) dX7_hasRoomFor_16 rfl (by decide) ?_
    exact e_r_iret (ty := .boolean) rfl (e_nZ (by decide)) dX7_hasRoomFor_17 h
  · have h := hf2 c
    refine e_r_iconst (pc' := 13) dX7_hasRoomFor_12 rfl (by decide) ?_
    refine e_r_goto (pc' := 17) dX7_hasRoomFor_13 rfl ?_
    exact e_r_iret (ty := .boolean) rfl (e_nZ (by decide)) dX7_hasRoomFor_17 h
theorem wp_X7_addBytesOf_0 {X : e_X} {d gn : Nat} {o : e_O} (M : e_M) (p1 : Int) (h : e_G X d YX7_addBytesOf 3 [some (.inr (.inr 2)), some (.inl p1), some (.inl 24)] [] (557, gn, e_RF, M) o) : e_G X d YX7_addBytesOf 0 [some (.inr (.inr 2)), some (.inl p1), none] [] (557, gn, e_RF, M) o := by
  refine e_r_bipush (pc' := 2) dX7_addBytesOf_0 rfl (by decide) ?_
  refine e_r_istore_n (pc' := 3) (loc' := [some (.inr (.inr 2)), some (.inl p1), some (.inl 24)]) dX7_addBytesOf_2 rfl rfl rfl rfl rfl ?_
  exact h
theorem wp_X7_addBytesOf_3 {X : e_X} {d gn : Nat} {o : e_O} (M : e_M) (p1 v2 : Int) (h : ((v2 < 0 → (o = (.inl none, (557, gn, e_RF, M)))) ∧ (¬ (v2 < 0) → ((600 ≤ (M 2 1) → (o = (.inl none, (557, gn, e_RF, M)))) ∧ (¬ (600 ≤ (M 2 1)) → ((0 ≤ (M 2 1) ∧ (M 2 1) < 600) ∧ e_G X d YX7_addBytesOf 3 [some (.inr (.inr 2)), some (.inl p1), some (.inl (e_w (v2 + (-8))))] [] (557, gn, e_RF, (e_up (e_up M 3 (M 2 1).toNat (e_i2b (e_i2b (e_shr p1 v2)))) 2 1 (e_w (((e_up M 3 (M 2 1).toNat (e_i2b (e_i2b (e_shr p1 v2)))) 2 1) + 1)))) o)))))) : e_G X d YX7_addBytesOf 3 [some (.inr (.inr 2)), some (.inl p1), some (.inl v2)] [] (557, gn, e_RF, M) o := by
  refine e_r_iload_n (pc' := 4) dX7_addBytesOf_3 rfl rfl rfl ?_
  obtain ⟨ht1, hf2⟩ := h
  refine e_r_if_lt (tgt := 46) (pc' := 7) dX7_addBytesOf_4 rfl rfl (fun c => ?_) (fun c => ?_)
  · have h := ht1 c
    exact e_r_vret rfl dX7_addBytesOf_46 h
  · have h := hf2 c
    refine e_r_aload_n (pc' := 8) (by decide) dX7_addBytesOf_7 rfl rfl rfl ?_
    refine e_r_geti (k := 1) (pc' := 11) cl_7 rfl (Nat.le_of_ble_eq_true rfl) rfl rfl fl_RX7_15 dX7_addBytesOf_8 rfl ?_
    refine e_r_sipush (pc' := 14) dX7_addBytesOf_11 rfl (by decide) ?_
    obtain ⟨ht3, hf4⟩ := h
    refine e_r_icmp_ge (tgt := 46) (pc' := 17) dX7_addBytesOf_14 rfl rfl (fun c => ?_) (fun c => ?_)
    · have h := ht3 c
      exact e_r_vret rfl dX7_addBytesOf_46 h
    · have h := hf4 c
      refine e_r_aload_n (pc' := 18) (by decide) dX7_addBytesOf_17 rfl rfl rfl ?_
      refine e_r_getr (k := 0) (q := 3) (pc' := 21) cl_7 rfl (Nat.le_of_ble_eq_true rfl) rfl rfl fl_RX7_9 rfl (Nat.le_of_ble_eq_true rfl) dX7_addBytesOf_18 rfl ?_
      refine e_r_aload_n (pc' := 22) (by decide) dX7_addBytesOf_21 rfl rfl rfl ?_
      refine e_r_geti (k := 1) (pc' := 25) cl_7 rfl (Nat.le_of_ble_eq_true rfl) rfl rfl fl_RX7_15 dX7_addBytesOf_22 rfl ?_
      refine e_r_iload_n (pc' := 26) dX7_addBytesOf_25 rfl rfl rfl ?_
      refine e_r_iload_n (pc' := 27) dX7_addBytesOf_26 rfl rfl rfl ?_
      refine e_r_ishr (pc' := 28) dX7_addBytesOf_27 rfl ?_
      refine e_r_i2b (pc' := 29) dX7_addBytesOf_28 rfl ?_
      obtain ⟨hb5, h⟩ := h
      refine e_r_bast (j9 := (M 2 1).toNat) (pc' := 30) rfl (Nat.le_of_ble_eq_true rfl) hb5.1 hb5.2 rfl dX7_addBytesOf_29 rfl ?_
      refine e_r_aload_n (pc' := 31) (by decide) dX7_addBytesOf_30 rfl rfl rfl ?_
      refine e_r_dup (pc' := 32) rfl dX7_addBytesOf_31 rfl ?_
      refine e_r_geti (k := 1) (pc' := 35) cl_7 rfl (Nat.le_of_ble_eq_true rfl) rfl rfl fl_RX7_15 dX7_addBytesOf_32 rfl ?_
      refine e_r_iconst (pc' := 36) dX7_addBytesOf_35 rfl (by decide) ?_
      refine e_r_iadd (pc' := 37) dX7_addBytesOf_36 rfl ?_
      refine e_r_puti (k := 1) (pc' := 40) cl_7 rfl (Nat.le_of_ble_eq_true rfl) rfl rfl fl_RX7_15 rfl (by decide +kernel) dX7_addBytesOf_37 rfl ?_
      refine e_r_iinc (pc' := 43) (loc' := [some (.inr (.inr 2)), some (.inl p1), some (.inl (e_w (v2 + (-8))))]) dX7_addBytesOf_40 rfl rfl rfl rfl rfl ?_
      refine e_r_goto (pc' := 3) dX7_addBytesOf_43 rfl ?_
      exact h
theorem wp_X7_beginReading_0 {X : e_X} {d gn : Nat} {o : e_O} (M : e_M) (p1 : Int) (h : (o = (.inl none, (557, gn, e_RF, (e_up (e_up (e_up (e_up (e_up M 2 2 p1) 2 1 0) 2 3 0) 2 4 0) 2 5 (-1)))))) : e_G X d YX7_beginReading 0 [some (.inr (.inr 2)), some (.inl p1)] [] (557, gn, e_RF, M) o := by
  refine e_r_aload_n (pc' := 1) (by decide) dX7_beginReading_0 rfl rfl rfl ?_
  refine e_r_iload_n (pc' := 2) dX7_beginReading_1 rfl rfl rfl ?_
  refine e_r_puti (k := 2) (pc' := 5) cl_7 rfl (Nat.le_of_ble_eq_true rfl) rfl rfl fl_RX7_19 rfl (by decide +kernel) dX7_beginReading_2 rfl ?_
  refine e_r_aload_n (pc' := 6) (by decide) dX7_beginReading_5 rfl rfl rfl ?_
  refine e_r_iconst (pc' := 7) dX7_beginReading_6 rfl (by decide) ?_
  refine e_r_puti (k := 1) (pc' := 10) cl_7 rfl (Nat.le_of_ble_eq_true rfl) rfl rfl fl_RX7_15 rfl (by decide +kernel) dX7_beginReading_7 rfl ?_
  refine e_r_aload_n (pc' := 11) (by decide) dX7_beginReading_10 rfl rfl rfl ?_
  refine e_r_iconst (pc' := 12) dX7_beginReading_11 rfl (by decide) ?_
  refine e_r_puti (k := 3) (pc' := 15) cl_7 rfl (Nat.le_of_ble_eq_true rfl) rfl rfl fl_RX7_22 rfl (by decide +kernel) dX7_beginReading_12 rfl ?_
  refine e_r_aload_n (pc' := 16) (by decide) dX7_beginReading_15 rfl rfl rfl ?_
  refine e_r_iconst (pc' := 17) dX7_beginReading_16 rfl (by decide) ?_
  refine e_r_puti (k := 4) (pc' := 20) cl_7 rfl (Nat.le_of_ble_eq_true rfl) rfl rfl fl_RX7_25 rfl (by decide +kernel) dX7_beginReading_17 rfl ?_
  refine e_r_aload_n (pc' := 21) (by decide) dX7_beginReading_20 rfl rfl rfl ?_
  refine e_r_iconst (pc' := 22) dX7_beginReading_21 rfl (by decide) ?_
  refine e_r_puti (k := 5) (pc' := 25) cl_7 rfl (Nat.le_of_ble_eq_true rfl) rfl rfl fl_RX7_28 rfl (by decide +kernel) dX7_beginReading_22 rfl ?_
  exact e_r_vret rfl dX7_beginReading_25 h
theorem wp_X7_flawed_0 {X : e_X} {d gn : Nat} {o : e_O} (M : e_M) (h : (((M 2 4) = 0 → (o = (.inl (some (.inl 0)), (557, gn, e_RF, M)))) ∧ (¬ ((M 2 4) = 0) → (o = (.inl (some (.inl 1)), (557, gn, e_RF, M)))))) : e_G X d YX7_flawed 0 [some (.inr (.inr 2))] [] (557, gn, e_RF, M) o := by
  refine e_r_aload_n (pc' := 1) (by decide) dX7_flawed_0 rfl rfl rfl ?_
  refine e_r_geti (k := 4) (pc' := 4) cl_7 rfl (Nat.le_of_ble_eq_true rfl) rfl rfl fl_RX7_25 dX7_flawed_1 rfl ?_
  obtain ⟨ht1, hf2⟩ := h
  refine e_r_if_eq (tgt := 11) (pc' := 7) dX7_flawed_4 rfl rfl (fun c => ?_) (fun c => ?_)
  · have h := ht1 c
    refine e_r_iconst (pc' := 12) dX7_flawed_11 rfl (by decide) ?_
    exact e_r_iret (ty := .boolean) rfl (e_nZ (by decide)) dX7_flawed_12 h
  · have h := hf2 c
    refine e_r_iconst (pc' := 8) dX7_flawed_7 rfl (by decide) ?_
    refine e_r_goto (pc' := 12) dX7_flawed_8 rfl ?_
    exact e_r_iret (ty := .boolean) rfl (e_nZ (by decide)) dX7_flawed_12 h
theorem wp_X7_signPlace_0 {X : e_X} {d gn : Nat} {o : e_O} (M : e_M) (h : (o = (.inl (some (.inl (M 2 3))), (557, gn, e_RF, M)))) : e_G X d YX7_signPlace 0 [some (.inr (.inr 2))] [] (557, gn, e_RF, M) o := by
  refine e_r_aload_n (pc' := 1) (by decide) dX7_signPlace_0 rfl rfl rfl ?_
  refine e_r_geti (k := 3) (pc' := 4) cl_7 rfl (Nat.le_of_ble_eq_true rfl) rfl rfl fl_RX7_22 dX7_signPlace_1 rfl ?_
  exact e_r_iret (ty := .int) rfl (e_nI _) dX7_signPlace_4 h
theorem wp_X7_flawAnswer_0 {X : e_X} {d gn : Nat} {o : e_O} (M : e_M) (h : (o = (.inl (some (.inl (e_w ((M 2 4) - 10)))), (557, gn, e_RF, M)))) : e_G X d YX7_flawAnswer 0 [some (.inr (.inr 2))] [] (557, gn, e_RF, M) o := by
  refine e_r_aload_n (pc' := 1) (by decide) dX7_flawAnswer_0 rfl rfl rfl ?_
  refine e_r_geti (k := 4) (pc' := 4) cl_7 rfl (Nat.le_of_ble_eq_true rfl) rfl rfl fl_RX7_25 dX7_flawAnswer_1 rfl ?_
  refine e_r_bipush (pc' := 6) dX7_flawAnswer_4 rfl (by decide) ?_
  refine e_r_isub (pc' := 7) dX7_flawAnswer_6 rfl ?_
  exact e_r_iret (ty := .int) rfl (e_nI _) dX7_flawAnswer_7 h
theorem wp_X7_noteFlaw_0 {X : e_X} {d gn : Nat} {o : e_O} (M : e_M) (p1 p2 : Int) (h : ((¬ (M 2 4) = 0 → (o = (.inl none, (557, gn, e_RF, M)))) ∧ ((M 2 4) = 0 → (o = (.inl none, (557, gn, e_RF, (e_up (e_up M 2 4 p1) 2 5 p2))))))) : e_G X d YX7_noteFlaw 0 [some (.inr (.inr 2)), some (.inl p1), some (.inl p2)] [] (557, gn, e_RF, M) o := by
  refine e_r_aload_n (pc' := 1) (by decide) dX7_noteFlaw_0 rfl rfl rfl ?_
  refine e_r_geti (k := 4) (pc' := 4) cl_7 rfl (Nat.le_of_ble_eq_true rfl) rfl rfl fl_RX7_25 dX7_noteFlaw_1 rfl ?_
  obtain ⟨ht1, hf2⟩ := h
  refine e_r_if_ne (tgt := 17) (pc' := 7) dX7_noteFlaw_4 rfl rfl (fun c => ?_) (fun c => ?_)
  · have h := ht1 c
    exact e_r_vret rfl dX7_noteFlaw_17 h
  · have h := hf2 c
    refine e_r_aload_n (pc' := 8) (by decide) dX7_noteFlaw_7 rfl rfl rfl ?_
    refine e_r_iload_n (pc' := 9) dX7_noteFlaw_8 rfl rfl rfl ?_
    refine e_r_puti (k := 4) (pc' := 12) cl_7 rfl (Nat.le_of_ble_eq_true rfl) rfl rfl fl_RX7_25 rfl (by decide +kernel) dX7_noteFlaw_9 rfl ?_
    refine e_r_aload_n (pc' := 13) (by decide) dX7_noteFlaw_12 rfl rfl rfl ?_
    refine e_r_iload_n (pc' := 14) dX7_noteFlaw_13 rfl rfl rfl ?_
    refine e_r_puti (k := 5) (pc' := 17) cl_7 rfl (Nat.le_of_ble_eq_true rfl) rfl rfl fl_RX7_28 rfl (by decide +kernel) dX7_noteFlaw_14 rfl ?_
    exact e_r_vret rfl dX7_noteFlaw_17 h
theorem wp_X7_peekSign_0 {X : e_X} {d gn : Nat} {o : e_O} (M : e_M) (h : (((M 2 2) ≤ (M 2 3) → e_G X d YX7_peekSign 38 [some (.inr (.inr 2))] [] (557, gn, e_RF, M) o) ∧ (¬ ((M 2 2) ≤ (M 2 3)) → ((0 ≤ (M 2 3) ∧ (M 2 3) < 600) ∧ ((¬ (M 3 (M 2 3).toNat) = 32 → e_G X d YX7_peekSign 38 [some (.inr (.inr 2))] [] (557, gn, e_RF, M) o) ∧ ((M 3 (M 2 3).toNat) = 32 → e_G X d YX7_peekSign 0 [some (.inr (.inr 2))] [] (557, gn, e_RF, (e_up M 2 3 (e_w ((M 2 3) + 1)))) o)))))) : e_G X d YX7_peekSign 0 [some (.inr (.inr 2))] [] (557, gn, e_RF, M) o := by
  refine e_r_aload_n (pc' := 1) (by decide) dX7_peekSign_0 rfl rfl rfl ?_
  refine e_r_geti (k := 3) (pc' := 4) cl_7 rfl (Nat.le_of_ble_eq_true rfl) rfl rfl fl_RX7_22 dX7_peekSign_1 rfl ?_
  refine e_r_aload_n (pc' := 5) (by decide) dX7_peekSign_4 rfl rfl rfl ?_
  refine e_r_geti (k := 2) (pc' := 8) cl_7 rfl (Nat.le_of_ble_eq_true rfl) rfl rfl fl_RX7_19 dX7_peekSign_5 rfl ?_
  obtain ⟨ht1, hf2⟩ := h
  refine e_r_icmp_ge (tgt := 38) (pc' := 11) dX7_peekSign_8 rfl rfl (fun c => ?_) (fun c => ?_)
  · have h := ht1 c
    exact h
  · have h := hf2 c
    refine e_r_aload_n (pc' := 12) (by decide) dX7_peekSign_11 rfl rfl rfl ?_
    refine e_r_getr (k := 0) (q := 3) (pc' := 15) cl_7 rfl (Nat.le_of_ble_eq_true rfl) rfl rfl fl_RX7_9 rfl (Nat.le_of_ble_eq_true rfl) dX7_peekSign_12 rfl ?_
    refine e_r_aload_n (pc' := 16) (by decide) dX7_peekSign_15 rfl rfl rfl ?_
    refine e_r_geti (k := 3) (pc' := 19) cl_7 rfl (Nat.le_of_ble_eq_true rfl) rfl rfl fl_RX7_22 dX7_peekSign_16 rfl ?_
    obtain ⟨hb3, h⟩ := h
    refine e_r_bald (j9 := (M 2 3).toNat) (pc' := 20) rfl (Nat.le_of_ble_eq_true rfl) hb3.1 hb3.2 rfl dX7_peekSign_19 rfl ?_
    refine e_r_bipush (pc' := 22) dX7_peekSign_20 rfl (by decide) ?_
    obtain ⟨ht4, hf5⟩ := h
    refine e_r_icmp_ne (tgt := 38) (pc' := 25) dX7_peekSign_22 rfl rfl (fun c => ?_) (fun c => ?_)
    · have h := ht4 c
      exact h
    · have h := hf5 c
      refine e_r_aload_n (pc' := 26) (by decide) dX7_peekSign_25 rfl rfl rfl ?_
      refine e_r_dup (pc' := 27) rfl dX7_peekSign_26 rfl ?_
      refine e_r_geti (k := 3) (pc' := 30) cl_7 rfl (Nat.le_of_ble_eq_true rfl) rfl rfl fl_RX7_22 dX7_peekSign_27 rfl ?_
      refine e_r_iconst (pc' := 31) dX7_peekSign_30 rfl (by decide) ?_
      refine e_r_iadd (pc' := 32) dX7_peekSign_31 rfl ?_
      refine e_r_puti (k := 3) (pc' := 35) cl_7 rfl (Nat.le_of_ble_eq_true rfl) rfl rfl fl_RX7_22 rfl (by decide +kernel) dX7_peekSign_32 rfl ?_
      refine e_r_goto (pc' := 0) dX7_peekSign_35 rfl ?_
      exact h
theorem wp_X7_peekSign_38 {X : e_X} {d gn : Nat} {o : e_O} (M : e_M) (h : (((M 2 2) ≤ (M 2 3) → (o = (.inl (some (.inl (-1))), (557, gn, e_RF, M)))) ∧ (¬ ((M 2 2) ≤ (M 2 3)) → ((0 ≤ (M 2 3) ∧ (M 2 3) < 600) ∧ (o = (.inl (some (.inl (e_and (M 3 (M 2 3).toNat) 255))), (557, gn, e_RF, M))))))) : e_G X d YX7_peekSign 38 [some (.inr (.inr 2))] [] (557, gn, e_RF, M) o := by
  refine e_r_aload_n (pc' := 39) (by decide) dX7_peekSign_38 rfl rfl rfl ?_
  refine e_r_geti (k := 3) (pc' := 42) cl_7 rfl (Nat.le_of_ble_eq_true rfl) rfl rfl fl_RX7_22 dX7_peekSign_39 rfl ?_
  refine e_r_aload_n (pc' := 43) (by decide) dX7_peekSign_42 rfl rfl rfl ?_
  refine e_r_geti (k := 2) (pc' := 46) cl_7 rfl (Nat.le_of_ble_eq_true rfl) rfl rfl fl_RX7_19 dX7_peekSign_43 rfl ?_
  obtain ⟨ht1, hf2⟩ := h
  refine e_r_icmp_ge (tgt := 65) (pc' := 49) dX7_peekSign_46 rfl rfl (fun c => ?_) (fun c => ?_)
  · have h := ht1 c
    refine e_r_iconst (pc' := 66) dX7_peekSign_65 rfl (by decide) ?_
    exact e_r_iret (ty := .int) rfl (e_nI _) dX7_peekSign_66 h
  · have h := hf2 c
    refine e_r_aload_n (pc' := 50) (by decide) dX7_peekSign_49 rfl rfl rfl ?_
    refine e_r_getr (k := 0) (q := 3) (pc' := 53) cl_7 rfl (Nat.le_of_ble_eq_true rfl) rfl rfl fl_RX7_9 rfl (Nat.le_of_ble_eq_true rfl) dX7_peekSign_50 rfl ?_
    refine e_r_aload_n (pc' := 54) (by decide) dX7_peekSign_53 rfl rfl rfl ?_
    refine e_r_geti (k := 3) (pc' := 57) cl_7 rfl (Nat.le_of_ble_eq_true rfl) rfl rfl fl_RX7_22 dX7_peekSign_54 rfl ?_
    obtain ⟨hb3, h⟩ := h
    refine e_r_bald (j9 := (M 2 3).toNat) (pc' := 58) rfl (Nat.le_of_ble_eq_true rfl) hb3.1 hb3.2 rfl dX7_peekSign_57 rfl ?_
    refine e_r_sipush (pc' := 61) dX7_peekSign_58 rfl (by decide) ?_
    refine e_r_iand (pc' := 62) dX7_peekSign_61 rfl ?_
    refine e_r_goto (pc' := 66) dX7_peekSign_62 rfl ?_
    exact e_r_iret (ty := .int) rfl (e_nI _) dX7_peekSign_66 h
theorem wp_X7_atEnd_0 {X : e_X} {d gn : Nat} {o : e_O} (M : e_M) (hmo : e_mn (557, gn, e_RF, M) o.2) (h : (∃ (r2 : Int) (N1 : e_M), e_E X d YX7_peekSign [.inr (.inr 2)] (557, gn, e_RF, M) (.inl (some (.inl r2)), (557, gn, e_RF, N1)) ∧ ((¬ r2 = (-1) → (o = (.inl (some (.inl 0)), (557, gn, e_RF, N1)))) ∧ (r2 = (-1) → (o = (.inl (some (.inl 1)), (557, gn, e_RF, N1))))))) : e_G X (d + 1) YX7_atEnd 0 [some (.inr (.inr 2))] [] (557, gn, e_RF, M) o := by
  refine e_r_aload_n (pc' := 1) (by decide) dX7_atEnd_0 rfl rfl rfl ?_
  obtain ⟨r2, N1, he3, h⟩ := h
  refine e_r_callV (a := 2) (av := []) (st := []) mqYX7_peekSign ml_RX7_34 cl_7 rfl (Nat.le_of_ble_eq_true rfl) (by simp [e_cat]) rfl rfl rfl dX7_atEnd_1 (pc' := 4) rfl he3 ⟨Nat.le_refl _, Nat.le_refl _⟩ hmo ?_
  refine e_r_iconst (pc' := 5) dX7_atEnd_4 rfl (by decide) ?_
  obtain ⟨ht4, hf5⟩ := h
  refine e_r_icmp_ne (tgt := 12) (pc' := 8) dX7_atEnd_5 rfl rfl (fun c => ?_) (fun c => ?_)
  · have h := ht4 c
    refine e_r_iconst (pc' := 13) dX7_atEnd_12 rfl (by decide) ?_
    exact e_r_iret (ty := .boolean) rfl (e_nZ (by decide)) dX7_atEnd_13 h
  · have h := hf5 c
    refine e_r_iconst (pc' := 9) dX7_atEnd_8 rfl (by decide) ?_
    refine e_r_goto (pc' := 13) dX7_atEnd_9 rfl ?_
    exact e_r_iret (ty := .boolean) rfl (e_nZ (by decide)) dX7_atEnd_13 h
theorem wp_X7_atDigit_0 {X : e_X} {d gn : Nat} {o : e_O} (M : e_M) (hmo : e_mn (557, gn, e_RF, M) o.2) (h : (∃ (r2 : Int) (N1 : e_M), e_E X d YX7_peekSign [.inr (.inr 2)] (557, gn, e_RF, M) (.inl (some (.inl r2)), (557, gn, e_RF, N1)) ∧ (∃ (r5 : Int) (N4 : e_M), e_E X d YX7_isDigit [.inl r2] (557, gn, e_RF, N1) (.inl (some (.inl r5)), (557, gn, e_RF, N4)) ∧ ((r5 = 0 ∨ r5 = 1) ∧ o = (.inl (some (.inl r5)), (557, gn, e_RF, N4)))))) : e_G X (d + 1) YX7_atDigit 0 [some (.inr (.inr 2))] [] (557, gn, e_RF, M) o := by
  refine e_r_aload_n (pc' := 1) (by decide) dX7_atDigit_0 rfl rfl rfl ?_
  obtain ⟨r2, N1, he3, h⟩ := h
  refine e_r_callV (a := 2) (av := []) (st := []) mqYX7_peekSign ml_RX7_34 cl_7 rfl (Nat.le_of_ble_eq_true rfl) (by simp [e_cat]) rfl rfl rfl dX7_atDigit_1 (pc' := 4) rfl he3 ⟨Nat.le_refl _, Nat.le_refl _⟩ hmo ?_
  obtain ⟨r5, N4, he6, h⟩ := h
  refine e_r_callS (av := [.inl r2]) (st := []) mqYX7_isDigit ml_RX7_38 (by simp [e_cat]) rfl rfl rfl dX7_atDigit_4 (pc' := 7) rfl he6 ⟨Nat.le_refl _, Nat.le_refl _⟩ hmo ?_
  exact e_r_iret (ty := .boolean) rfl (e_nZ h.1) dX7_atDigit_7 h.2
theorem wp_X7_takeSign_0 {X : e_X} {d gn : Nat} {o : e_O} (M : e_M) (p1 : Int) (hmo : e_mn (557, gn, e_RF, M) o.2) (h : ((¬ (M 2 4) = 0 → (o = (.inl (some (.inl 0)), (557, gn, e_RF, M)))) ∧ ((M 2 4) = 0 → (∃ (r4 : Int) (N3 : e_M), e_E X d YX7_peekSign [.inr (.inr 2)] (557, gn, e_RF, M) (.inl (some (.inl r4)), (557, gn, e_RF, N3)) ∧ ((r4 = p1 → (o = (.inl (some (.inl 1)), (557, gn, e_RF, (e_up N3 2 3 (e_w ((N3 2 3) + 1))))))) ∧ (¬ (r4 = p1) → (o = (.inl (some (.inl 0)), (557, gn, e_RF, N3))))))))) : e_G X (d + 1) YX7_takeSign 0 [some (.inr (.inr 2)), some (.inl p1)] [] (557, gn, e_RF, M) o := by
  refine e_r_aload_n (pc' := 1) (by decide) dX7_takeSign_0 rfl rfl rfl ?_
  refine e_r_geti (k := 4) (pc' := 4) cl_7 rfl (Nat.le_of_ble_eq_true rfl) rfl rfl fl_RX7_25 dX7_takeSign_1 rfl ?_
  obtain ⟨ht1, hf2⟩ := h
  refine e_r_if_ne (tgt := 15) (pc' := 7) dX7_takeSign_4 rfl rfl (fun c => ?_) (fun c => ?_)
  · have h := ht1 c
    refine e_r_iconst (pc' := 16) dX7_takeSign_15 rfl (by decide) ?_
    exact e_r_iret (ty := .boolean) rfl (e_nZ (by decide)) dX7_takeSign_16 h
  · have h := hf2 c
    refine e_r_aload_n (pc' := 8) (by decide) dX7_takeSign_7 rfl rfl rfl ?_
    obtain ⟨r4, N3, he5, h⟩ := h
    refine e_r_callV (a := 2) (av := []) (st := []) mqYX7_peekSign ml_RX7_34 cl_7 rfl (Nat.le_of_ble_eq_true rfl) (by simp [e_cat]) rfl rfl rfl dX7_takeSign_8 (pc' := 11) rfl he5 ⟨Nat.le_refl _, Nat.le_refl _⟩ hmo ?_
    refine e_r_iload_n (pc' := 12) dX7_takeSign_11 rfl rfl rfl ?_
    obtain ⟨ht6, hf7⟩ := h
    refine e_r_icmp_eq (tgt := 17) (pc' := 15) dX7_takeSign_12 rfl rfl (fun c => ?_) (fun c => ?_)
    · have h := ht6 c
      refine e_r_aload_n (pc' := 18) (by decide) dX7_takeSign_17 rfl rfl rfl ?_
      refine e_r_dup (pc' := 19) rfl dX7_takeSign_18 rfl ?_
      refine e_r_geti (k := 3) (pc' := 22) cl_7 rfl (Nat.le_of_ble_eq_true rfl) rfl rfl fl_RX7_22 dX7_takeSign_19 rfl ?_
      refine e_r_iconst (pc' := 23) dX7_takeSign_22 rfl (by decide) ?_
      refine e_r_iadd (pc' := 24) dX7_takeSign_23 rfl ?_
      refine e_r_puti (k := 3) (pc' := 27) cl_7 rfl (Nat.le_of_ble_eq_true rfl) rfl rfl fl_RX7_22 rfl (by decide +kernel) dX7_takeSign_24 rfl ?_
      refine e_r_iconst (pc' := 28) dX7_takeSign_27 rfl (by decide) ?_
      exact e_r_iret (ty := .boolean) rfl (e_nZ (by decide)) dX7_takeSign_28 h
    · have h := hf7 c
      refine e_r_iconst (pc' := 16) dX7_takeSign_15 rfl (by decide) ?_
      exact e_r_iret (ty := .boolean) rfl (e_nZ (by decide)) dX7_takeSign_16 h
theorem wp_X7_expectSign_0 {X : e_X} {d gn : Nat} {o : e_O} (M : e_M) (p1 : Int) (hmo : e_mn (557, gn, e_RF, M) o.2) (h : (((M 2 4) = 0 → (∃ (r4 : Int) (N3 : e_M), e_E X d YX7_peekSign [.inr (.inr 2)] (557, gn, e_RF, M) (.inl (some (.inl r4)), (557, gn, e_RF, N3)) ∧ ((¬ r4 = p1 → (∃ N8 : e_M, e_E X d YX7_noteFlaw [.inr (.inr 2), .inl 1, .inl (N3 2 3)] (557, gn, e_RF, N3) (.inl none, (557, gn, e_RF, N8)) ∧ (o = (.inl none, (557, gn, e_RF, N8))))) ∧ (r4 = p1 → (o = (.inl none, (557, gn, e_RF, (e_up N3 2 3 (e_w ((N3 2 3) + 1)))))))))) ∧ (¬ ((M 2 4) = 0) → (o = (.inl none, (557, gn, e_RF, M)))))) : e_G X (d + 1) YX7_expectSign 0 [some (.inr (.inr 2)), some (.inl p1)] [] (557, gn, e_RF, M) o := by
  refine e_r_aload_n (pc' := 1) (by decide) dX7_expectSign_0 rfl rfl rfl ?_
  refine e_r_geti (k := 4) (pc' := 4) cl_7 rfl (Nat.le_of_ble_eq_true rfl) rfl rfl fl_RX7_25 dX7_expectSign_1 rfl ?_
  obtain ⟨ht1, hf2⟩ := h
  refine e_r_if_eq (tgt := 8) (pc' := 7) dX7_expectSign_4 rfl rfl (fun c => ?_) (fun c => ?_)
  · have h := ht1 c
    refine e_r_aload_n (pc' := 9) (by decide) dX7_expectSign_8 rfl rfl rfl ?_
    obtain ⟨r4, N3, he5, h⟩ := h
    refine e_r_callV (a := 2) (av := []) (st := []) mqYX7_peekSign ml_RX7_34 cl_7 rfl (Nat.le_of_ble_eq_true rfl) (by simp [e_cat]) rfl rfl rfl dX7_expectSign_9 (pc' := 12) rfl he5 ⟨Nat.le_refl _, Nat.le_refl _⟩ hmo ?_
    refine e_r_iload_n (pc' := 13) dX7_expectSign_12 rfl rfl rfl ?_
    obtain ⟨ht6, hf7⟩ := h
    refine e_r_icmp_ne (tgt := 29) (pc' := 16) dX7_expectSign_13 rfl rfl (fun c => ?_) (fun c => ?_)
    · have h := ht6 c
      refine e_r_aload_n (pc' := 30) (by decide) dX7_expectSign_29 rfl rfl rfl ?_
      refine e_r_iconst (pc' := 31) dX7_expectSign_30 rfl (by decide) ?_
      refine e_r_aload_n (pc' := 32) (by decide) dX7_expectSign_31 rfl rfl rfl ?_
      refine e_r_geti (k := 3) (pc' := 35) cl_7 rfl (Nat.le_of_ble_eq_true rfl) rfl rfl fl_RX7_22 dX7_expectSign_32 rfl ?_
      obtain ⟨N8, he9, h⟩ := h
      refine e_r_callV (a := 2) (av := [.inl 1, .inl (N3 2 3)]) (st := []) mqYX7_noteFlaw ml_RX7_42 cl_7 rfl (Nat.le_of_ble_eq_true rfl) (by simp [e_cat]) rfl rfl rfl dX7_expectSign_35 (pc' := 38) rfl he9 ⟨Nat.le_refl _, Nat.le_refl _⟩ hmo ?_
      exact e_r_vret rfl dX7_expectSign_38 h
    · have h := hf7 c
      refine e_r_aload_n (pc' := 17) (by decide) dX7_expectSign_16 rfl rfl rfl ?_
      refine e_r_dup (pc' := 18) rfl dX7_expectSign_17 rfl ?_
      refine e_r_geti (k := 3) (pc' := 21) cl_7 rfl (Nat.le_of_ble_eq_true rfl) rfl rfl fl_RX7_22 dX7_expectSign_18 rfl ?_
      refine e_r_iconst (pc' := 22) dX7_expectSign_21 rfl (by decide) ?_
      refine e_r_iadd (pc' := 23) dX7_expectSign_22 rfl ?_
      refine e_r_puti (k := 3) (pc' := 26) cl_7 rfl (Nat.le_of_ble_eq_true rfl) rfl rfl fl_RX7_22 rfl (by decide +kernel) dX7_expectSign_23 rfl ?_
      refine e_r_goto (pc' := 38) dX7_expectSign_26 rfl ?_
      exact e_r_vret rfl dX7_expectSign_38 h
  · have h := hf2 c
    exact e_r_vret rfl dX7_expectSign_7 h
theorem wp_X7_expectEnd_0 {X : e_X} {d gn : Nat} {o : e_O} (M : e_M) (hmo : e_mn (557, gn, e_RF, M) o.2) (h : ((¬ (M 2 4) = 0 → (o = (.inl none, (557, gn, e_RF, M)))) ∧ ((M 2 4) = 0 → (∃ (r4 : Int) (N3 : e_M), e_E X d YX7_atEnd [.inr (.inr 2)] (557, gn, e_RF, M) (.inl (some (.inl r4)), (557, gn, e_RF, N3)) ∧ ((¬ r4 = 0 → (o = (.inl none, (557, gn, e_RF, N3)))) ∧ (r4 = 0 → (∃ N8 : e_M, e_E X d YX7_noteFlaw [.inr (.inr 2), .inl 1, .inl (N3 2 3)] (557, gn, e_RF, N3) (.inl none, (557, gn, e_RF, N8)) ∧ (o = (.inl none, (557, gn, e_RF, N8)))))))))) : e_G X (d + 1) YX7_expectEnd 0 [some (.inr (.inr 2))] [] (557, gn, e_RF, M) o := by
  refine e_r_aload_n (pc' := 1) (by decide) dX7_expectEnd_0 rfl rfl rfl ?_
  refine e_r_geti (k := 4) (pc' := 4) cl_7 rfl (Nat.le_of_ble_eq_true rfl) rfl rfl fl_RX7_25 dX7_expectEnd_1 rfl ?_
  obtain ⟨ht1, hf2⟩ := h
  refine e_r_if_ne (tgt := 23) (pc' := 7) dX7_expectEnd_4 rfl rfl (fun c => ?_) (fun c => ?_)
  · have h := ht1 c
    exact e_r_vret rfl dX7_expectEnd_23 h
  · have h := hf2 c
    refine e_r_aload_n (pc' := 8) (by decide) dX7_expectEnd_7 rfl rfl rfl ?_
    obtain ⟨r4, N3, he5, h⟩ := h
    refine e_r_callV (a := 2) (av := []) (st := []) mqYX7_atEnd ml_RX7_46 cl_7 rfl (Nat.le_of_ble_eq_true rfl) (by simp [e_cat]) rfl rfl rfl dX7_expectEnd_8 (pc' := 11) rfl he5 ⟨Nat.le_refl _, Nat.le_refl _⟩ hmo ?_
    obtain ⟨ht6, hf7⟩ := h
    refine e_r_if_ne (tgt := 23) (pc' := 14) dX7_expectEnd_11 rfl rfl (fun c => ?_) (fun c => ?_)
    · have h := ht6 c
      exact e_r_vret rfl dX7_expectEnd_23 h
    · have h := hf7 c
      refine e_r_aload_n (pc' := 15) (by decide) dX7_expectEnd_14 rfl rfl rfl ?_
      refine e_r_iconst (pc' := 16) dX7_expectEnd_15 rfl (by decide) ?_
      refine e_r_aload_n (pc' := 17) (by decide) dX7_expectEnd_16 rfl rfl rfl ?_
      refine e_r_geti (k := 3) (pc' := 20) cl_7 rfl (Nat.le_of_ble_eq_true rfl) rfl rfl fl_RX7_22 dX7_expectEnd_17 rfl ?_
      obtain ⟨N8, he9, h⟩ := h
      refine e_r_callV (a := 2) (av := [.inl 1, .inl (N3 2 3)]) (st := []) mqYX7_noteFlaw ml_RX7_42 cl_7 rfl (Nat.le_of_ble_eq_true rfl) (by simp [e_cat]) rfl rfl rfl dX7_expectEnd_20 (pc' := 23) rfl he9 ⟨Nat.le_refl _, Nat.le_refl _⟩ hmo ?_
      exact e_r_vret rfl dX7_expectEnd_23 h
theorem wp_X7_readNumber_0 {X : e_X} {d gn : Nat} {o : e_O} (M : e_M) (p1 p2 : Int) (hmo : e_mn (557, gn, e_RF, M) o.2) (h : (((M 2 4) = 0 → (∃ (r4 : Int) (N3 : e_M), e_E X d YX7_atDigit [.inr (.inr 2)] (557, gn, e_RF, M) (.inl (some (.inl r4)), (557, gn, e_RF, N3)) ∧ ((¬ r4 = 0 → e_G X (d + 1) YX7_readNumber 37 [some (.inr (.inr 2)), some (.inl p1), some (.inl p2), some (.inl 0)] [] (557, gn, e_RF, (e_up N3 2 6 (N3 2 3))) o) ∧ (r4 = 0 → (∃ N8 : e_M, e_E X d YX7_noteFlaw [.inr (.inr 2), .inl 1, .inl (N3 2 3)] (557, gn, e_RF, N3) (.inl none, (557, gn, e_RF, N8)) ∧ (o = (.inl (some (.inl (-1))), (557, gn, e_RF, N8)))))))) ∧ (¬ ((M 2 4) = 0) → (o = (.inl (some (.inl (-1))), (557, gn, e_RF, M)))))) : e_G X (d + 1) YX7_readNumber 0 [some (.inr (.inr 2)), some (.inl p1), some (.inl p2), none] [] (557, gn, e_RF, M) o := by
  refine e_r_aload_n (pc' := 1) (by decide) dX7_readNumber_0 rfl rfl rfl ?_
  refine e_r_geti (k := 4) (pc' := 4) cl_7 rfl (Nat.le_of_ble_eq_true rfl) rfl rfl fl_RX7_25 dX7_readNumber_1 rfl ?_
  obtain ⟨ht1, hf2⟩ := h
  refine e_r_if_eq (tgt := 9) (pc' := 7) dX7_readNumber_4 rfl rfl (fun c => ?_) (fun c => ?_)
  · have h := ht1 c
    refine e_r_aload_n (pc' := 10) (by decide) dX7_readNumber_9 rfl rfl rfl ?_
    obtain ⟨r4, N3, he5, h⟩ := h
    refine e_r_callV (a := 2) (av := []) (st := []) mqYX7_atDigit ml_RX7_50 cl_7 rfl (Nat.le_of_ble_eq_true rfl) (by simp [e_cat]) rfl rfl rfl dX7_readNumber_10 (pc' := 13) rfl he5 ⟨Nat.le_refl _, Nat.le_refl _⟩ hmo ?_
    obtain ⟨ht6, hf7⟩ := h
    refine e_r_if_ne (tgt := 27) (pc' := 16) dX7_readNumber_13 rfl rfl (fun c => ?_) (fun c => ?_)
    · have h := ht6 c
      refine e_r_aload_n (pc' := 28) (by decide) dX7_readNumber_27 rfl rfl rfl ?_
      refine e_r_aload_n (pc' := 29) (by decide) dX7_readNumber_28 rfl rfl rfl ?_
      refine e_r_geti (k := 3) (pc' := 32) cl_7 rfl (Nat.le_of_ble_eq_true rfl) rfl rfl fl_RX7_22 dX7_readNumber_29 rfl ?_
      refine e_r_puti (k := 6) (pc' := 35) cl_7 rfl (Nat.le_of_ble_eq_true rfl) rfl rfl fl_RX7_31 rfl (by decide +kernel) dX7_readNumber_32 rfl ?_
      refine e_r_iconst (pc' := 36) dX7_readNumber_35 rfl (by decide) ?_
      refine e_r_istore_n (pc' := 37) (loc' := [some (.inr (.inr 2)), some (.inl p1), some (.inl p2), some (.inl 0)]) dX7_readNumber_36 rfl rfl rfl rfl rfl ?_
      exact h
    · have h := hf7 c
      refine e_r_aload_n (pc' := 17) (by decide) dX7_readNumber_16 rfl rfl rfl ?_
      refine e_r_iconst (pc' := 18) dX7_readNumber_17 rfl (by decide) ?_
      refine e_r_aload_n (pc' := 19) (by decide) dX7_readNumber_18 rfl rfl rfl ?_
      refine e_r_geti (k := 3) (pc' := 22) cl_7 rfl (Nat.le_of_ble_eq_true rfl) rfl rfl fl_RX7_22 dX7_readNumber_19 rfl ?_
      obtain ⟨N8, he9, h⟩ := h
      refine e_r_callV (a := 2) (av := [.inl 1, .inl (N3 2 3)]) (st := []) mqYX7_noteFlaw ml_RX7_42 cl_7 rfl (Nat.le_of_ble_eq_true rfl) (by simp [e_cat]) rfl rfl rfl dX7_readNumber_22 (pc' := 25) rfl he9 ⟨Nat.le_refl _, Nat.le_refl _⟩ hmo ?_
      refine e_r_iconst (pc' := 26) dX7_readNumber_25 rfl (by decide) ?_
      exact e_r_iret (ty := .int) rfl (e_nI _) dX7_readNumber_26 h
  · have h := hf2 c
    refine e_r_iconst (pc' := 8) dX7_readNumber_7 rfl (by decide) ?_
    exact e_r_iret (ty := .int) rfl (e_nI _) dX7_readNumber_8 h
theorem wp_X7_readNumber_37 {X : e_X} {d gn : Nat} {o : e_O} (M : e_M) (p1 p2 v3 : Int) (hmo : e_mn (557, gn, e_RF, M) o.2) (h : (((M 2 2) ≤ (M 2 3) → e_G X (d + 1) YX7_readNumber 99 [some (.inr (.inr 2)), some (.inl p1), some (.inl p2), some (.inl v3)] [] (557, gn, e_RF, M) o) ∧ (¬ ((M 2 2) ≤ (M 2 3)) → ((0 ≤ (M 2 3) ∧ (M 2 3) < 600) ∧ (∃ (r5 : Int) (N4 : e_M), e_E X d YX7_isDigit [.inl (M 3 (M 2 3).toNat)] (557, gn, e_RF, M) (.inl (some (.inl r5)), (557, gn, e_RF, N4)) ∧ ((r5 = 0 → e_G X (d + 1) YX7_readNumber 99 [some (.inr (.inr 2)), some (.inl p1), some (.inl p2), some (.inl v3)] [] (557, gn, e_RF, N4) o) ∧ (¬ (r5 = 0) → ((0 ≤ (N4 2 3) ∧ (N4 2 3) < 600) ∧ e_G X (d + 1) YX7_readNumber 37 [some (.inr (.inr 2)), some (.inl p1), some (.inl p2), some (.inl (min 1000000 (e_w ((e_w ((e_w (v3 * 10)) + (N4 3 (N4 2 3).toNat))) - 48))))] [] (557, gn, e_RF, (e_up N4 2 3 (e_w ((N4 2 3) + 1)))) o)))))))) : e_G X (d + 1) YX7_readNumber 37 [some (.inr (.inr 2)), some (.inl p1), some (.inl p2), some (.inl v3)] [] (557, gn, e_RF, M) o := by
  refine e_r_aload_n (pc' := 38) (by decide) dX7_readNumber_37 rfl rfl rfl ?_
  refine e_r_geti (k := 3) (pc' := 41) cl_7 rfl (Nat.le_of_ble_eq_true rfl) rfl rfl fl_RX7_22 dX7_readNumber_38 rfl ?_
  refine e_r_aload_n (pc' := 42) (by decide) dX7_readNumber_41 rfl rfl rfl ?_
  refine e_r_geti (k := 2) (pc' := 45) cl_7 rfl (Nat.le_of_ble_eq_true rfl) rfl rfl fl_RX7_19 dX7_readNumber_42 rfl ?_
  obtain ⟨ht1, hf2⟩ := h
  refine e_r_icmp_ge (tgt := 99) (pc' := 48) dX7_readNumber_45 rfl rfl (fun c => ?_) (fun c => ?_)
  · have h := ht1 c
    exact h
  · have h := hf2 c
    refine e_r_aload_n (pc' := 49) (by decide) dX7_readNumber_48 rfl rfl rfl ?_
    refine e_r_getr (k := 0) (q := 3) (pc' := 52) cl_7 rfl (Nat.le_of_ble_eq_true rfl) rfl rfl fl_RX7_9 rfl (Nat.le_of_ble_eq_true rfl) dX7_readNumber_49 rfl ?_
    refine e_r_aload_n (pc' := 53) (by decide) dX7_readNumber_52 rfl rfl rfl ?_
    refine e_r_geti (k := 3) (pc' := 56) cl_7 rfl (Nat.le_of_ble_eq_true rfl) rfl rfl fl_RX7_22 dX7_readNumber_53 rfl ?_
    obtain ⟨hb3, h⟩ := h
    refine e_r_bald (j9 := (M 2 3).toNat) (pc' := 57) rfl (Nat.le_of_ble_eq_true rfl) hb3.1 hb3.2 rfl dX7_readNumber_56 rfl ?_
    obtain ⟨r5, N4, he6, h⟩ := h
    refine e_r_callS (av := [.inl (M 3 (M 2 3).toNat)]) (st := []) mqYX7_isDigit ml_RX7_38 (by simp [e_cat]) rfl rfl rfl dX7_readNumber_57 (pc' := 60) rfl he6 ⟨Nat.le_refl _, Nat.le_refl _⟩ hmo ?_
    obtain ⟨ht7, hf8⟩ := h
    refine e_r_if_eq (tgt := 99) (pc' := 63) dX7_readNumber_60 rfl rfl (fun c => ?_) (fun c => ?_)
    · have h := ht7 c
      exact h
    · have h := hf8 c
      refine e_r_ldc (pc' := 65) (n := 1000000) cst_RX7_53 dX7_readNumber_63 rfl (by decide) ?_
      refine e_r_iload_n (pc' := 66) dX7_readNumber_65 rfl rfl rfl ?_
      refine e_r_bipush (pc' := 68) dX7_readNumber_66 rfl (by decide) ?_
      refine e_r_imul (pc' := 69) dX7_readNumber_68 rfl ?_
      refine e_r_aload_n (pc' := 70) (by decide) dX7_readNumber_69 rfl rfl rfl ?_
      refine e_r_getr (k := 0) (q := 3) (pc' := 73) cl_7 rfl (Nat.le_of_ble_eq_true rfl) rfl rfl fl_RX7_9 rfl (Nat.le_of_ble_eq_true rfl) dX7_readNumber_70 rfl ?_
      refine e_r_aload_n (pc' := 74) (by decide) dX7_readNumber_73 rfl rfl rfl ?_
      refine e_r_geti (k := 3) (pc' := 77) cl_7 rfl (Nat.le_of_ble_eq_true rfl) rfl rfl fl_RX7_22 dX7_readNumber_74 rfl ?_
      obtain ⟨hb9, h⟩ := h
      refine e_r_bald (j9 := (N4 2 3).toNat) (pc' := 78) rfl (Nat.le_of_ble_eq_true rfl) hb9.1 hb9.2 rfl dX7_readNumber_77 rfl ?_
      refine e_r_iadd (pc' := 79) dX7_readNumber_78 rfl ?_
      refine e_r_bipush (pc' := 81) dX7_readNumber_79 rfl (by decide) ?_
      refine e_r_isub (pc' := 82) dX7_readNumber_81 rfl ?_
      refine e_r_min (pc' := 85) lk_RX7_54 rfl dX7_readNumber_82 rfl ?_
      refine e_r_istore_n (pc' := 86) (loc' := [some (.inr (.inr 2)), some (.inl p1), some (.inl p2), some (.inl (min 1000000 (e_w ((e_w ((e_w (v3 * 10)) + (N4 3 (N4 2 3).toNat))) - 48))))]) dX7_readNumber_85 rfl rfl rfl rfl rfl ?_
      refine e_r_aload_n (pc' := 87) (by decide) dX7_readNumber_86 rfl rfl rfl ?_
      refine e_r_dup (pc' := 88) rfl dX7_readNumber_87 rfl ?_
      refine e_r_geti (k := 3) (pc' := 91) cl_7 rfl (Nat.le_of_ble_eq_true rfl) rfl rfl fl_RX7_22 dX7_readNumber_88 rfl ?_
      refine e_r_iconst (pc' := 92) dX7_readNumber_91 rfl (by decide) ?_
      refine e_r_iadd (pc' := 93) dX7_readNumber_92 rfl ?_
      refine e_r_puti (k := 3) (pc' := 96) cl_7 rfl (Nat.le_of_ble_eq_true rfl) rfl rfl fl_RX7_22 rfl (by decide +kernel) dX7_readNumber_93 rfl ?_
      refine e_r_goto (pc' := 37) dX7_readNumber_96 rfl ?_
      exact h
theorem wp_X7_readNumber_99 {X : e_X} {d gn : Nat} {o : e_O} (M : e_M) (p1 p2 v3 : Int) (h : ((v3 < p1 → e_G X (d + 1) YX7_readNumber 109 [some (.inr (.inr 2)), some (.inl p1), some (.inl p2), some (.inl v3)] [] (557, gn, e_RF, M) o) ∧ (¬ (v3 < p1) → ((v3 ≤ p2 → (o = (.inl (some (.inl v3)), (557, gn, e_RF, M)))) ∧ (¬ (v3 ≤ p2) → e_G X (d + 1) YX7_readNumber 109 [some (.inr (.inr 2)), some (.inl p1), some (.inl p2), some (.inl v3)] [] (557, gn, e_RF, M) o))))) : e_G X (d + 1) YX7_readNumber 99 [some (.inr (.inr 2)), some (.inl p1), some (.inl p2), some (.inl v3)] [] (557, gn, e_RF, M) o := by
  refine e_r_iload_n (pc' := 100) dX7_readNumber_99 rfl rfl rfl ?_
  refine e_r_iload_n (pc' := 101) dX7_readNumber_100 rfl rfl rfl ?_
  obtain ⟨ht1, hf2⟩ := h
  refine e_r_icmp_lt (tgt := 109) (pc' := 104) dX7_readNumber_101 rfl rfl (fun c => ?_) (fun c => ?_)
  · have h := ht1 c
    exact h
  · have h := hf2 c
    refine e_r_iload_n (pc' := 105) dX7_readNumber_104 rfl rfl rfl ?_
    refine e_r_iload_n (pc' := 106) dX7_readNumber_105 rfl rfl rfl ?_
    obtain ⟨ht3, hf4⟩ := h
    refine e_r_icmp_le (tgt := 120) (pc' := 109) dX7_readNumber_106 rfl rfl (fun c => ?_) (fun c => ?_)
    · have h := ht3 c
      refine e_r_iload_n (pc' := 121) dX7_readNumber_120 rfl rfl rfl ?_
      exact e_r_iret (ty := .int) rfl (e_nI _) dX7_readNumber_121 h
    · have h := hf4 c
      exact h
theorem wp_X7_readNumber_109 {X : e_X} {d gn : Nat} {o : e_O} (M : e_M) (p1 p2 v3 : Int) (hmo : e_mn (557, gn, e_RF, M) o.2) (h : (∃ N1 : e_M, e_E X d YX7_noteFlaw [.inr (.inr 2), .inl 2, .inl (M 2 6)] (557, gn, e_RF, M) (.inl none, (557, gn, e_RF, N1)) ∧ (o = (.inl (some (.inl (-1))), (557, gn, e_RF, N1))))) : e_G X (d + 1) YX7_readNumber 109 [some (.inr (.inr 2)), some (.inl p1), some (.inl p2), some (.inl v3)] [] (557, gn, e_RF, M) o := by
  refine e_r_aload_n (pc' := 110) (by decide) dX7_readNumber_109 rfl rfl rfl ?_
  refine e_r_iconst (pc' := 111) dX7_readNumber_110 rfl (by decide) ?_
  refine e_r_aload_n (pc' := 112) (by decide) dX7_readNumber_111 rfl rfl rfl ?_
  refine e_r_geti (k := 6) (pc' := 115) cl_7 rfl (Nat.le_of_ble_eq_true rfl) rfl rfl fl_RX7_31 dX7_readNumber_112 rfl ?_
  obtain ⟨N1, he2, h⟩ := h
  refine e_r_callV (a := 2) (av := [.inl 2, .inl (M 2 6)]) (st := []) mqYX7_noteFlaw ml_RX7_42 cl_7 rfl (Nat.le_of_ble_eq_true rfl) (by simp [e_cat]) rfl rfl rfl dX7_readNumber_115 (pc' := 118) rfl he2 ⟨Nat.le_refl _, Nat.le_refl _⟩ hmo ?_
  refine e_r_iconst (pc' := 119) dX7_readNumber_118 rfl (by decide) ?_
  exact e_r_iret (ty := .int) rfl (e_nI _) dX7_readNumber_119 h
theorem wp_X7_isDigit_0 {X : e_X} {d gn : Nat} {o : e_O} (M : e_M) (p0 : Int) (h : ((p0 < 48 → (o = (.inl (some (.inl 0)), (557, gn, e_RF, M)))) ∧ (¬ (p0 < 48) → ((57 < p0 → (o = (.inl (some (.inl 0)), (557, gn, e_RF, M)))) ∧ (¬ (57 < p0) → (o = (.inl (some (.inl 1)), (557, gn, e_RF, M)))))))) : e_G X d YX7_isDigit 0 [some (.inl p0)] [] (557, gn, e_RF, M) o := by
  refine e_r_iload_n (pc' := 1) dX7_isDigit_0 rfl rfl rfl ?_
  refine e_r_bipush (pc' := 3) dX7_isDigit_1 rfl (by decide) ?_
  obtain ⟨ht1, hf2⟩ := h
  refine e_r_icmp_lt (tgt := 16) (pc' := 6) dX7_isDigit_3 rfl rfl (fun c => ?_) (fun c => ?_)
  · have h := ht1 c
    refine e_r_iconst (pc' := 17) dX7_isDigit_16 rfl (by decide) ?_
    exact e_r_iret (ty := .boolean) rfl (e_nZ (by decide)) dX7_isDigit_17 h
  · have h := hf2 c
    refine e_r_iload_n (pc' := 7) dX7_isDigit_6 rfl rfl rfl ?_
    refine e_r_bipush (pc' := 9) dX7_isDigit_7 rfl (by decide) ?_
    obtain ⟨ht3, hf4⟩ := h
    refine e_r_icmp_gt (tgt := 16) (pc' := 12) dX7_isDigit_9 rfl rfl (fun c => ?_) (fun c => ?_)
    · have h := ht3 c
      refine e_r_iconst (pc' := 17) dX7_isDigit_16 rfl (by decide) ?_
      exact e_r_iret (ty := .boolean) rfl (e_nZ (by decide)) dX7_isDigit_17 h
    · have h := hf4 c
      refine e_r_iconst (pc' := 13) dX7_isDigit_12 rfl (by decide) ?_
      refine e_r_goto (pc' := 17) dX7_isDigit_13 rfl ?_
      exact e_r_iret (ty := .boolean) rfl (e_nZ (by decide)) dX7_isDigit_17 h
