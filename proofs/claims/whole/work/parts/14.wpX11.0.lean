theorem wp_X11_tellsNothing_0 {X : e_X} {d gn : Nat} {o : e_O} (M : e_M) (h : e_G X d YX11_tellsNothing 2 [some (.inr (.inr 64)), some (.inl 0)] [] (557, gn, e_RF, M) o) : e_G X d YX11_tellsNothing 0 [some (.inr (.inr 64)), none] [] (557, gn, e_RF, M) o := by
  refine e_r_iconst (pc' := 1) dX11_tellsNothing_0 rfl (by decide) ?_
  refine e_r_istore_n (pc' := 2) (loc' := [some (.inr (.inr 64)), some (.inl 0)]) dX11_tellsNothing_1 rfl rfl rfl rfl rfl ?_
  exact h
theorem wp_X11_tellsNothing_2 {X : e_X} {d gn : Nat} {o : e_O} (M : e_M) (v1 : Int) (h : ((3 ≤ v1 → e_G X d YX11_tellsNothing 22 [some (.inr (.inr 64)), some (.inl 0)] [] (557, gn, e_RF, M) o) ∧ (¬ (3 ≤ v1) → ((0 ≤ v1 ∧ v1 < 3) ∧ e_G X d YX11_tellsNothing 2 [some (.inr (.inr 64)), some (.inl (e_w (v1 + 1)))] [] (557, gn, e_RF, (e_up M 67 v1.toNat 0)) o)))) : e_G X d YX11_tellsNothing 2 [some (.inr (.inr 64)), some (.inl v1)] [] (557, gn, e_RF, M) o := by
  refine e_r_iload_n (pc' := 3) dX11_tellsNothing_2 rfl rfl rfl ?_
  refine e_r_iconst (pc' := 4) dX11_tellsNothing_3 rfl (by decide) ?_
  obtain ⟨ht1, hf2⟩ := h
  refine e_r_icmp_ge (tgt := 20) (pc' := 7) dX11_tellsNothing_4 rfl rfl (fun c => ?_) (fun c => ?_)
  · have h := ht1 c
    refine e_r_iconst (pc' := 21) dX11_tellsNothing_20 rfl (by decide) ?_
    refine e_r_istore_n (pc' := 22) (loc' := [some (.inr (.inr 64)), some (.inl 0)]) dX11_tellsNothing_21 rfl rfl rfl rfl rfl ?_
    exact h
  · have h := hf2 c
    refine e_r_aload_n (pc' := 8) (by decide) dX11_tellsNothing_7 rfl rfl rfl ?_
    refine e_r_getr (k := 11) (q := 67) (pc' := 11) cl_11 rfl (Nat.le_of_ble_eq_true rfl) rfl rfl fl_RX11_20 rfl (Nat.le_of_ble_eq_true rfl) dX11_tellsNothing_8 rfl ?_
    refine e_r_iload_n (pc' := 12) dX11_tellsNothing_11 rfl rfl rfl ?_
    refine e_r_iconst (pc' := 13) dX11_tellsNothing_12 rfl (by decide) ?_
    obtain ⟨hb3, h⟩ := h
    refine e_r_iast (j9 := v1.toNat) (pc' := 14) rfl (Nat.le_of_ble_eq_true rfl) hb3.1 hb3.2 rfl dX11_tellsNothing_13 rfl ?_
    refine e_r_iinc (pc' := 17) (loc' := [some (.inr (.inr 64)), some (.inl (e_w (v1 + 1)))]) dX11_tellsNothing_14 rfl rfl rfl rfl rfl ?_
    refine e_r_goto (pc' := 2) dX11_tellsNothing_17 rfl ?_
    exact h
theorem wp_X11_tellsNothing_22 {X : e_X} {d gn : Nat} {o : e_O} (M : e_M) (v1 : Int) (h : ((6 ≤ v1 → (o = (.inl none, (557, gn, e_RF, M)))) ∧ (¬ (6 ≤ v1) → ((0 ≤ v1 ∧ v1 < 6) ∧ e_G X d YX11_tellsNothing 22 [some (.inr (.inr 64)), some (.inl (e_w (v1 + 1)))] [] (557, gn, e_RF, (e_up M 71 v1.toNat 0)) o)))) : e_G X d YX11_tellsNothing 22 [some (.inr (.inr 64)), some (.inl v1)] [] (557, gn, e_RF, M) o := by
  refine e_r_iload_n (pc' := 23) dX11_tellsNothing_22 rfl rfl rfl ?_
  refine e_r_bipush (pc' := 25) dX11_tellsNothing_23 rfl (by decide) ?_
  obtain ⟨ht1, hf2⟩ := h
  refine e_r_icmp_ge (tgt := 41) (pc' := 28) dX11_tellsNothing_25 rfl rfl (fun c => ?_) (fun c => ?_)
  · have h := ht1 c
    exact e_r_vret rfl dX11_tellsNothing_41 h
  · have h := hf2 c
    refine e_r_aload_n (pc' := 29) (by decide) dX11_tellsNothing_28 rfl rfl rfl ?_
    refine e_r_getr (k := 15) (q := 71) (pc' := 32) cl_11 rfl (Nat.le_of_ble_eq_true rfl) rfl rfl fl_RX11_32 rfl (Nat.le_of_ble_eq_true rfl) dX11_tellsNothing_29 rfl ?_
    refine e_r_iload_n (pc' := 33) dX11_tellsNothing_32 rfl rfl rfl ?_
    refine e_r_iconst (pc' := 34) dX11_tellsNothing_33 rfl (by decide) ?_
    obtain ⟨hb3, h⟩ := h
    refine e_r_iast (j9 := v1.toNat) (pc' := 35) rfl (Nat.le_of_ble_eq_true rfl) hb3.1 hb3.2 rfl dX11_tellsNothing_34 rfl ?_
    refine e_r_iinc (pc' := 38) (loc' := [some (.inr (.inr 64)), some (.inl (e_w (v1 + 1)))]) dX11_tellsNothing_35 rfl rfl rfl rfl rfl ?_
    refine e_r_goto (pc' := 22) dX11_tellsNothing_38 rfl ?_
    exact h
theorem wp_X11_thrown_0 {X : e_X} {d gn : Nat} {o : e_O} (M : e_M) (h : (o = (.inl (some (.inl (M 64 0))), (557, gn, e_RF, M)))) : e_G X d YX11_thrown 0 [some (.inr (.inr 64))] [] (557, gn, e_RF, M) o := by
  refine e_r_aload_n (pc' := 1) (by decide) dX11_thrown_0 rfl rfl rfl ?_
  refine e_r_geti (k := 0) (pc' := 4) cl_11 rfl (Nat.le_of_ble_eq_true rfl) rfl rfl fl_RX11_97 dX11_thrown_1 rfl ?_
  exact e_r_iret (ty := .int) rfl (e_nI _) dX11_thrown_4 h
theorem wp_X11_bad_0 {X : e_X} {d gn : Nat} {o : e_O} (M : e_M) (p1 p2 p3 : Int) (h : ((p1 = 0 → e_G X d YX11_bad 26 [some (.inr (.inr 64)), some (.inl p1), some (.inl p2), some (.inl p3)] [] (557, gn, e_RF, M) o) ∧ (¬ (p1 = 0) → ((¬ (M 64 0) = 0 → e_G X d YX11_bad 26 [some (.inr (.inr 64)), some (.inl p1), some (.inl p2), some (.inl p3)] [] (557, gn, e_RF, M) o) ∧ ((M 64 0) = 0 → ((0 ≤ p3 ∧ p3 < 2) ∧ ((0 ≤ p3 ∧ p3 < 2) ∧ e_G X d YX11_bad 26 [some (.inr (.inr 64)), some (.inl p1), some (.inl p2), some (.inl p3)] [] (557, gn, e_RF, (e_up (e_up M 64 0 p2) 66 p3.toNat (e_w (((e_up M 64 0 p2) 66 p3.toNat) + 1)))) o))))))) : e_G X d YX11_bad 0 [some (.inr (.inr 64)), some (.inl p1), some (.inl p2), some (.inl p3)] [] (557, gn, e_RF, M) o := by
  refine e_r_iload_n (pc' := 1) dX11_bad_0 rfl rfl rfl ?_
  obtain ⟨ht1, hf2⟩ := h
  refine e_r_if_eq (tgt := 26) (pc' := 4) dX11_bad_1 rfl rfl (fun c => ?_) (fun c => ?_)
  · have h := ht1 c
    exact h
  · have h := hf2 c
    refine e_r_aload_n (pc' := 5) (by decide) dX11_bad_4 rfl rfl rfl ?_
    refine e_r_geti (k := 0) (pc' := 8) cl_11 rfl (Nat.le_of_ble_eq_true rfl) rfl rfl fl_RX11_97 dX11_bad_5 rfl ?_
    obtain ⟨ht3, hf4⟩ := h
    refine e_r_if_ne (tgt := 26) (pc' := 11) dX11_bad_8 rfl rfl (fun c => ?_) (fun c => ?_)
    · have h := ht3 c
      exact h
    · have h := hf4 c
      refine e_r_aload_n (pc' := 12) (by decide) dX11_bad_11 rfl rfl rfl ?_
      refine e_r_iload_n (pc' := 13) dX11_bad_12 rfl rfl rfl ?_
      refine e_r_puti (k := 0) (pc' := 16) cl_11 rfl (Nat.le_of_ble_eq_true rfl) rfl rfl fl_RX11_97 rfl (by decide +kernel) dX11_bad_13 rfl ?_
      refine e_r_aload_n (pc' := 17) (by decide) dX11_bad_16 rfl rfl rfl ?_
      refine e_r_getr (k := 10) (q := 66) (pc' := 20) cl_11 rfl (Nat.le_of_ble_eq_true rfl) rfl rfl fl_RX11_17 rfl (Nat.le_of_ble_eq_true rfl) dX11_bad_17 rfl ?_
      refine e_r_iload_n (pc' := 21) dX11_bad_20 rfl rfl rfl ?_
      refine e_r_dup2 (pc' := 22) rfl rfl dX11_bad_21 rfl ?_
      obtain ⟨hb5, h⟩ := h
      refine e_r_iald (j9 := p3.toNat) (pc' := 23) rfl (Nat.le_of_ble_eq_true rfl) hb5.1 hb5.2 rfl dX11_bad_22 rfl ?_
      refine e_r_iconst (pc' := 24) dX11_bad_23 rfl (by decide) ?_
      refine e_r_iadd (pc' := 25) dX11_bad_24 rfl ?_
      obtain ⟨hb6, h⟩ := h
      refine e_r_iast (j9 := p3.toNat) (pc' := 26) rfl (Nat.le_of_ble_eq_true rfl) hb6.1 hb6.2 rfl dX11_bad_25 rfl ?_
      exact h
theorem wp_X11_bad_26 {X : e_X} {d gn : Nat} {o : e_O} (M : e_M) (p1 p2 p3 : Int) (h : (((M 64 0) = 0 → (o = (.inl (some (.inl 0)), (557, gn, e_RF, M)))) ∧ (¬ ((M 64 0) = 0) → (o = (.inl (some (.inl 1)), (557, gn, e_RF, M)))))) : e_G X d YX11_bad 26 [some (.inr (.inr 64)), some (.inl p1), some (.inl p2), some (.inl p3)] [] (557, gn, e_RF, M) o := by
  refine e_r_aload_n (pc' := 27) (by decide) dX11_bad_26 rfl rfl rfl ?_
  refine e_r_geti (k := 0) (pc' := 30) cl_11 rfl (Nat.le_of_ble_eq_true rfl) rfl rfl fl_RX11_97 dX11_bad_27 rfl ?_
  obtain ⟨ht1, hf2⟩ := h
  refine e_r_if_eq (tgt := 37) (pc' := 33) dX11_bad_30 rfl rfl (fun c => ?_) (fun c => ?_)
  · have h := ht1 c
    refine e_r_iconst (pc' := 38) dX11_bad_37 rfl (by decide) ?_
    exact e_r_iret (ty := .boolean) rfl (e_nZ (by decide)) dX11_bad_38 h
  · have h := hf2 c
    refine e_r_iconst (pc' := 34) dX11_bad_33 rfl (by decide) ?_
    refine e_r_goto (pc' := 38) dX11_bad_34 rfl ?_
    exact e_r_iret (ty := .boolean) rfl (e_nZ (by decide)) dX11_bad_38 h
theorem wp_X11_in_0 {X : e_X} {d gn : Nat} {o : e_O} (M : e_M) (p0 p1 p2 : Int) (h : ((p0 < p1 → (o = (.inl (some (.inl 0)), (557, gn, e_RF, M)))) ∧ (¬ (p0 < p1) → ((p2 < p0 → (o = (.inl (some (.inl 0)), (557, gn, e_RF, M)))) ∧ (¬ (p2 < p0) → (o = (.inl (some (.inl 1)), (557, gn, e_RF, M)))))))) : e_G X d YX11_in 0 [some (.inl p0), some (.inl p1), some (.inl p2)] [] (557, gn, e_RF, M) o := by
  refine e_r_iload_n (pc' := 1) dX11_in_0 rfl rfl rfl ?_
  refine e_r_iload_n (pc' := 2) dX11_in_1 rfl rfl rfl ?_
  obtain ⟨ht1, hf2⟩ := h
  refine e_r_icmp_lt (tgt := 14) (pc' := 5) dX11_in_2 rfl rfl (fun c => ?_) (fun c => ?_)
  · have h := ht1 c
    refine e_r_iconst (pc' := 15) dX11_in_14 rfl (by decide) ?_
    exact e_r_iret (ty := .boolean) rfl (e_nZ (by decide)) dX11_in_15 h
  · have h := hf2 c
    refine e_r_iload_n (pc' := 6) dX11_in_5 rfl rfl rfl ?_
    refine e_r_iload_n (pc' := 7) dX11_in_6 rfl rfl rfl ?_
    obtain ⟨ht3, hf4⟩ := h
    refine e_r_icmp_gt (tgt := 14) (pc' := 10) dX11_in_7 rfl rfl (fun c => ?_) (fun c => ?_)
    · have h := ht3 c
      refine e_r_iconst (pc' := 15) dX11_in_14 rfl (by decide) ?_
      exact e_r_iret (ty := .boolean) rfl (e_nZ (by decide)) dX11_in_15 h
    · have h := hf4 c
      refine e_r_iconst (pc' := 11) dX11_in_10 rfl (by decide) ?_
      refine e_r_goto (pc' := 15) dX11_in_11 rfl ?_
      exact e_r_iret (ty := .boolean) rfl (e_nZ (by decide)) dX11_in_15 h
theorem wp_X11_less_0 {X : e_X} {d gn : Nat} {o : e_O} (M : e_M) (p0 p1 : Int) (h : ((p1 ≤ p0 → (o = (.inl (some (.inl p1)), (557, gn, e_RF, M)))) ∧ (¬ (p1 ≤ p0) → (o = (.inl (some (.inl p0)), (557, gn, e_RF, M)))))) : e_G X d YX11_less 0 [some (.inl p0), some (.inl p1)] [] (557, gn, e_RF, M) o := by
  refine e_r_iload_n (pc' := 1) dX11_less_0 rfl rfl rfl ?_
  refine e_r_iload_n (pc' := 2) dX11_less_1 rfl rfl rfl ?_
  obtain ⟨ht1, hf2⟩ := h
  refine e_r_icmp_ge (tgt := 9) (pc' := 5) dX11_less_2 rfl rfl (fun c => ?_) (fun c => ?_)
  · have h := ht1 c
    refine e_r_iload_n (pc' := 10) dX11_less_9 rfl rfl rfl ?_
    exact e_r_iret (ty := .int) rfl (e_nI _) dX11_less_10 h
  · have h := hf2 c
    refine e_r_iload_n (pc' := 6) dX11_less_5 rfl rfl rfl ?_
    refine e_r_goto (pc' := 10) dX11_less_6 rfl ?_
    exact e_r_iret (ty := .int) rfl (e_nI _) dX11_less_10 h
theorem wp_X11_more_0 {X : e_X} {d gn : Nat} {o : e_O} (M : e_M) (p0 p1 : Int) (h : ((p0 ≤ p1 → (o = (.inl (some (.inl p1)), (557, gn, e_RF, M)))) ∧ (¬ (p0 ≤ p1) → (o = (.inl (some (.inl p0)), (557, gn, e_RF, M)))))) : e_G X d YX11_more 0 [some (.inl p0), some (.inl p1)] [] (557, gn, e_RF, M) o := by
  refine e_r_iload_n (pc' := 1) dX11_more_0 rfl rfl rfl ?_
  refine e_r_iload_n (pc' := 2) dX11_more_1 rfl rfl rfl ?_
  obtain ⟨ht1, hf2⟩ := h
  refine e_r_icmp_le (tgt := 9) (pc' := 5) dX11_more_2 rfl rfl (fun c => ?_) (fun c => ?_)
  · have h := ht1 c
    refine e_r_iload_n (pc' := 10) dX11_more_9 rfl rfl rfl ?_
    exact e_r_iret (ty := .int) rfl (e_nI _) dX11_more_10 h
  · have h := hf2 c
    refine e_r_iload_n (pc' := 6) dX11_more_5 rfl rfl rfl ?_
    refine e_r_goto (pc' := 10) dX11_more_6 rfl ?_
    exact e_r_iret (ty := .int) rfl (e_nI _) dX11_more_10 h
theorem wp_X11_has_0 {X : e_X} {d gn : Nat} {o : e_O} (M : e_M) (p0 p1 : Int) (h : ((¬ (e_and (e_shr p0 p1) 1) = 1 → (o = (.inl (some (.inl 0)), (557, gn, e_RF, M)))) ∧ ((e_and (e_shr p0 p1) 1) = 1 → (o = (.inl (some (.inl 1)), (557, gn, e_RF, M)))))) : e_G X d YX11_has 0 [some (.inl p0), some (.inl p1)] [] (557, gn, e_RF, M) o := by
  refine e_r_iload_n (pc' := 1) dX11_has_0 rfl rfl rfl ?_
  refine e_r_iload_n (pc' := 2) dX11_has_1 rfl rfl rfl ?_
  refine e_r_ishr (pc' := 3) dX11_has_2 rfl ?_
  refine e_r_iconst (pc' := 4) dX11_has_3 rfl (by decide) ?_
  refine e_r_iand (pc' := 5) dX11_has_4 rfl ?_
  refine e_r_iconst (pc' := 6) dX11_has_5 rfl (by decide) ?_
  obtain ⟨ht1, hf2⟩ := h
  refine e_r_icmp_ne (tgt := 13) (pc' := 9) dX11_has_6 rfl rfl (fun c => ?_) (fun c => ?_)
  · have h := ht1 c
    refine e_r_iconst (pc' := 14) dX11_has_13 rfl (by decide) ?_
    exact e_r_iret (ty := .boolean) rfl (e_nZ (by decide)) dX11_has_14 h
  · have h := hf2 c
    refine e_r_iconst (pc' := 10) dX11_has_9 rfl (by decide) ?_
    refine e_r_goto (pc' := 14) dX11_has_10 rfl ?_
    exact e_r_iret (ty := .boolean) rfl (e_nZ (by decide)) dX11_has_14 h
theorem wp_X11_feed_0 {X : e_X} {d gn : Nat} {o : e_O} (M : e_M) (p1 p2 p3 p4 p5 : Int) (h : (((e_w (((e_up M 64 0 0) 64 1) + 20)) ≤ 600 → e_G X d YX11_feed 23 [some (.inr (.inr 64)), some (.inl p1), some (.inl p2), some (.inl p3), some (.inl p4), some (.inl p5), some (.inl 0), none] [] (557, gn, e_RF, (e_up M 64 0 0)) o) ∧ (¬ ((e_w (((e_up M 64 0 0) 64 1) + 20)) ≤ 600) → (o = (.inl (some (.inl (-1))), (557, gn, e_RF, (e_up M 64 0 0))))))) : e_G X d YX11_feed 0 [some (.inr (.inr 64)), some (.inl p1), some (.inl p2), some (.inl p3), some (.inl p4), some (.inl p5), none, none] [] (557, gn, e_RF, M) o := by
  refine e_r_aload_n (pc' := 1) (by decide) dX11_feed_0 rfl rfl rfl ?_
  refine e_r_iconst (pc' := 2) dX11_feed_1 rfl (by decide) ?_
  refine e_r_puti (k := 0) (pc' := 5) cl_11 rfl (Nat.le_of_ble_eq_true rfl) rfl rfl fl_RX11_97 rfl (by decide +kernel) dX11_feed_2 rfl ?_
  refine e_r_aload_n (pc' := 6) (by decide) dX11_feed_5 rfl rfl rfl ?_
  refine e_r_geti (k := 1) (pc' := 9) cl_11 rfl (Nat.le_of_ble_eq_true rfl) rfl rfl fl_RX11_100 dX11_feed_6 rfl ?_
  refine e_r_bipush (pc' := 11) dX11_feed_9 rfl (by decide) ?_
  refine e_r_iadd (pc' := 12) dX11_feed_11 rfl ?_
  refine e_r_sipush (pc' := 15) dX11_feed_12 rfl (by decide) ?_
  obtain ⟨ht1, hf2⟩ := h
  refine e_r_icmp_le (tgt := 20) (pc' := 18) dX11_feed_15 rfl rfl (fun c => ?_) (fun c => ?_)
  · have h := ht1 c
    refine e_r_iconst (pc' := 21) dX11_feed_20 rfl (by decide) ?_
    refine e_r_istore (pc' := 23) (loc' := [some (.inr (.inr 64)), some (.inl p1), some (.inl p2), some (.inl p3), some (.inl p4), some (.inl p5), some (.inl 0), none]) dX11_feed_21 rfl rfl rfl rfl ?_
    exact h
  · have h := hf2 c
    refine e_r_iconst (pc' := 19) dX11_feed_18 rfl (by decide) ?_
    exact e_r_iret (ty := .int) rfl (e_nI _) dX11_feed_19 h
theorem wp_X11_feed_23 {X : e_X} {d gn : Nat} {o : e_O} (M : e_M) (p1 p2 p3 p4 p5 v6 : Int) (h : ((20 ≤ v6 → (o = (.inl (some (.inl (M 64 1))), (557, gn, e_RF, M)))) ∧ (¬ (20 ≤ v6) → ((4 ≤ v6 → ((8 ≤ v6 → ((12 ≤ v6 → ((16 ≤ v6 → e_G X d YX11_feed 76 [some (.inr (.inr 64)), some (.inl p1), some (.inl p2), some (.inl p3), some (.inl p4), some (.inl p5), some (.inl v6), none] [.inl p5] (557, gn, e_RF, M) o) ∧ (¬ (16 ≤ v6) → e_G X d YX11_feed 76 [some (.inr (.inr 64)), some (.inl p1), some (.inl p2), some (.inl p3), some (.inl p4), some (.inl p5), some (.inl v6), none] [.inl p4] (557, gn, e_RF, M) o))) ∧ (¬ (12 ≤ v6) → e_G X d YX11_feed 76 [some (.inr (.inr 64)), some (.inl p1), some (.inl p2), some (.inl p3), some (.inl p4), some (.inl p5), some (.inl v6), none] [.inl p3] (557, gn, e_RF, M) o))) ∧ (¬ (8 ≤ v6) → e_G X d YX11_feed 76 [some (.inr (.inr 64)), some (.inl p1), some (.inl p2), some (.inl p3), some (.inl p4), some (.inl p5), some (.inl v6), none] [.inl p2] (557, gn, e_RF, M) o))) ∧ (¬ (4 ≤ v6) → e_G X d YX11_feed 76 [some (.inr (.inr 64)), some (.inl p1), some (.inl p2), some (.inl p3), some (.inl p4), some (.inl p5), some (.inl v6), none] [.inl p1] (557, gn, e_RF, M) o))))) : e_G X d YX11_feed 23 [some (.inr (.inr 64)), some (.inl p1), some (.inl p2), some (.inl p3), some (.inl p4), some (.inl p5), some (.inl v6), none] [] (557, gn, e_RF, M) o := by
  refine e_r_iload (pc' := 25) dX11_feed_23 rfl rfl ?_
  refine e_r_bipush (pc' := 27) dX11_feed_25 rfl (by decide) ?_
  obtain ⟨ht1, hf2⟩ := h
  refine e_r_icmp_ge (tgt := 120) (pc' := 30) dX11_feed_27 rfl rfl (fun c => ?_) (fun c => ?_)
  · have h := ht1 c
    refine e_r_aload_n (pc' := 121) (by decide) dX11_feed_120 rfl rfl rfl ?_
    refine e_r_geti (k := 1) (pc' := 124) cl_11 rfl (Nat.le_of_ble_eq_true rfl) rfl rfl fl_RX11_100 dX11_feed_121 rfl ?_
    exact e_r_iret (ty := .int) rfl (e_nI _) dX11_feed_124 h
  · have h := hf2 c
    refine e_r_iload (pc' := 32) dX11_feed_30 rfl rfl ?_
    refine e_r_iconst (pc' := 33) dX11_feed_32 rfl (by decide) ?_
    obtain ⟨ht3, hf4⟩ := h
    refine e_r_icmp_ge (tgt := 40) (pc' := 36) dX11_feed_33 rfl rfl (fun c => ?_) (fun c => ?_)
    · have h := ht3 c
      refine e_r_iload (pc' := 42) dX11_feed_40 rfl rfl ?_
      refine e_r_bipush (pc' := 44) dX11_feed_42 rfl (by decide) ?_
      obtain ⟨ht5, hf6⟩ := h
      refine e_r_icmp_ge (tgt := 51) (pc' := 47) dX11_feed_44 rfl rfl (fun c => ?_) (fun c => ?_)
      · have h := ht5 c
        refine e_r_iload (pc' := 53) dX11_feed_51 rfl rfl ?_
        refine e_r_bipush (pc' := 55) dX11_feed_53 rfl (by decide) ?_
        obtain ⟨ht7, hf8⟩ := h
        refine e_r_icmp_ge (tgt := 62) (pc' := 58) dX11_feed_55 rfl rfl (fun c => ?_) (fun c => ?_)
        · have h := ht7 c
          refine e_r_iload (pc' := 64) dX11_feed_62 rfl rfl ?_
          refine e_r_bipush (pc' := 66) dX11_feed_64 rfl (by decide) ?_
          obtain ⟨ht9, hf10⟩ := h
          refine e_r_icmp_ge (tgt := 74) (pc' := 69) dX11_feed_66 rfl rfl (fun c => ?_) (fun c => ?_)
          · have h := ht9 c
            refine e_r_iload (pc' := 76) dX11_feed_74 rfl rfl ?_
            exact h
          · have h := hf10 c
            refine e_r_iload (pc' := 71) dX11_feed_69 rfl rfl ?_
            refine e_r_goto (pc' := 76) dX11_feed_71 rfl ?_
            exact h
        · have h := hf8 c
          refine e_r_iload_n (pc' := 59) dX11_feed_58 rfl rfl rfl ?_
          refine e_r_goto (pc' := 76) dX11_feed_59 rfl ?_
          exact h
      · have h := hf6 c
        refine e_r_iload_n (pc' := 48) dX11_feed_47 rfl rfl rfl ?_
        refine e_r_goto (pc' := 76) dX11_feed_48 rfl ?_
        exact h
    · have h := hf4 c
      refine e_r_iload_n (pc' := 37) dX11_feed_36 rfl rfl rfl ?_
      refine e_r_goto (pc' := 76) dX11_feed_37 rfl ?_
      exact h
theorem wp_X11_feed_76 {X : e_X} {d gn : Nat} {o : e_O} (M : e_M) (p1 p2 p3 p4 p5 v6 w0 : Int) (h : ((0 ≤ (M 64 1) ∧ (M 64 1) < 600) ∧ e_G X d YX11_feed 23 [some (.inr (.inr 64)), some (.inl p1), some (.inl p2), some (.inl p3), some (.inl p4), some (.inl p5), some (.inl (e_w (v6 + 1))), none] [] (557, gn, e_RF, (e_up (e_up M 65 (M 64 1).toNat (e_and (e_shr w0 (e_w (24 - (e_w (8 * (e_w (Int.tmod v6 4))))))) 255)) 64 1 (e_w (((e_up M 65 (M 64 1).toNat (e_and (e_shr w0 (e_w (24 - (e_w (8 * (e_w (Int.tmod v6 4))))))) 255)) 64 1) + 1)))) o)) : e_G X d YX11_feed 76 [some (.inr (.inr 64)), some (.inl p1), some (.inl p2), some (.inl p3), some (.inl p4), some (.inl p5), some (.inl v6), none] [.inl w0] (557, gn, e_RF, M) o := by
  refine e_r_istore (pc' := 78) (loc' := [some (.inr (.inr 64)), some (.inl p1), some (.inl p2), some (.inl p3), some (.inl p4), some (.inl p5), some (.inl v6), some (.inl w0)]) dX11_feed_76 rfl rfl rfl rfl ?_
  refine e_r_aload_n (pc' := 79) (by decide) dX11_feed_78 rfl rfl rfl ?_
  refine e_r_getr (k := 9) (q := 65) (pc' := 82) cl_11 rfl (Nat.le_of_ble_eq_true rfl) rfl rfl fl_RX11_13 rfl (Nat.le_of_ble_eq_true rfl) dX11_feed_79 rfl ?_
  refine e_r_aload_n (pc' := 83) (by decide) dX11_feed_82 rfl rfl rfl ?_
  refine e_r_geti (k := 1) (pc' := 86) cl_11 rfl (Nat.le_of_ble_eq_true rfl) rfl rfl fl_RX11_100 dX11_feed_83 rfl ?_
  refine e_r_iload (pc' := 88) dX11_feed_86 rfl rfl ?_
  refine e_r_bipush (pc' := 90) dX11_feed_88 rfl (by decide) ?_
  refine e_r_bipush (pc' := 92) dX11_feed_90 rfl (by decide) ?_
  refine e_r_iload (pc' := 94) dX11_feed_92 rfl rfl ?_
  refine e_r_iconst (pc' := 95) dX11_feed_94 rfl (by decide) ?_
  refine e_r_irem (pc' := 96) (by decide) dX11_feed_95 rfl ?_
  refine e_r_imul (pc' := 97) dX11_feed_96 rfl ?_
  refine e_r_isub (pc' := 98) dX11_feed_97 rfl ?_
  refine e_r_ishr (pc' := 99) dX11_feed_98 rfl ?_
  refine e_r_sipush (pc' := 102) dX11_feed_99 rfl (by decide) ?_
  refine e_r_iand (pc' := 103) dX11_feed_102 rfl ?_
  obtain ⟨hb1, h⟩ := h
  refine e_r_iast (j9 := (M 64 1).toNat) (pc' := 104) rfl (Nat.le_of_ble_eq_true rfl) hb1.1 hb1.2 rfl dX11_feed_103 rfl ?_
  refine e_r_aload_n (pc' := 105) (by decide) dX11_feed_104 rfl rfl rfl ?_
  refine e_r_dup (pc' := 106) rfl dX11_feed_105 rfl ?_
  refine e_r_geti (k := 1) (pc' := 109) cl_11 rfl (Nat.le_of_ble_eq_true rfl) rfl rfl fl_RX11_100 dX11_feed_106 rfl ?_
  refine e_r_iconst (pc' := 110) dX11_feed_109 rfl (by decide) ?_
  refine e_r_iadd (pc' := 111) dX11_feed_110 rfl ?_
  refine e_r_puti (k := 1) (pc' := 114) cl_11 rfl (Nat.le_of_ble_eq_true rfl) rfl rfl fl_RX11_100 rfl (by decide +kernel) dX11_feed_111 rfl ?_
  refine e_r_iinc (pc' := 117) (loc' := [some (.inr (.inr 64)), some (.inl p1), some (.inl p2), some (.inl p3), some (.inl p4), some (.inl p5), some (.inl (e_w (v6 + 1))), some (.inl w0)]) dX11_feed_114 rfl rfl rfl rfl rfl ?_
  refine e_r_goto (pc' := 23) dX11_feed_117 rfl ?_
  exact e_forget (m := [true, true, true, true, true, true, true, false]) h rfl
theorem wp_X11_byteAt_0 {X : e_X} {d gn : Nat} {o : e_O} (M : e_M) (p1 : Int) (h : ((p1 < (M 64 2) → ((0 ≤ p1 ∧ p1 < 600) ∧ (o = (.inl (some (.inl (M 65 p1.toNat))), (557, gn, e_RF, M))))) ∧ (¬ (p1 < (M 64 2)) → (o = (.inl (some (.inl (-1))), (557, gn, e_RF, M)))))) : e_G X d YX11_byteAt 0 [some (.inr (.inr 64)), some (.inl p1)] [] (557, gn, e_RF, M) o := by
  refine e_r_iload_n (pc' := 1) dX11_byteAt_0 rfl rfl rfl ?_
  refine e_r_aload_n (pc' := 2) (by decide) dX11_byteAt_1 rfl rfl rfl ?_
  refine e_r_geti (k := 2) (pc' := 5) cl_11 rfl (Nat.le_of_ble_eq_true rfl) rfl rfl fl_RX11_103 dX11_byteAt_2 rfl ?_
  obtain ⟨ht1, hf2⟩ := h
  refine e_r_icmp_lt (tgt := 12) (pc' := 8) dX11_byteAt_5 rfl rfl (fun c => ?_) (fun c => ?_)
  · have h := ht1 c
    refine e_r_aload_n (pc' := 13) (by decide) dX11_byteAt_12 rfl rfl rfl ?_
    refine e_r_getr (k := 9) (q := 65) (pc' := 16) cl_11 rfl (Nat.le_of_ble_eq_true rfl) rfl rfl fl_RX11_13 rfl (Nat.le_of_ble_eq_true rfl) dX11_byteAt_13 rfl ?_
    refine e_r_iload_n (pc' := 17) dX11_byteAt_16 rfl rfl rfl ?_
    obtain ⟨hb3, h⟩ := h
    refine e_r_iald (j9 := p1.toNat) (pc' := 18) rfl (Nat.le_of_ble_eq_true rfl) hb3.1 hb3.2 rfl dX11_byteAt_17 rfl ?_
    exact e_r_iret (ty := .int) rfl (e_nI _) dX11_byteAt_18 h
  · have h := hf2 c
    refine e_r_iconst (pc' := 9) dX11_byteAt_8 rfl (by decide) ?_
    refine e_r_goto (pc' := 18) dX11_byteAt_9 rfl ?_
    exact e_r_iret (ty := .int) rfl (e_nI _) dX11_byteAt_18 h
theorem wp_X11_blanks_0 {X : e_X} {d gn : Nat} {o : e_O} (M : e_M) (hmo : e_mn (557, gn, e_RF, M) o.2) (h : (∃ (r2 : Int) (N1 : e_M), e_E X d YX11_byteAt [.inr (.inr 64), .inl (M 64 4)] (557, gn, e_RF, M) (.inl (some (.inl r2)), (557, gn, e_RF, N1)) ∧ ((¬ r2 = 32 → (o = (.inl none, (557, gn, e_RF, N1)))) ∧ (r2 = 32 → e_G X (d + 1) YX11_blanks 0 [some (.inr (.inr 64))] [] (557, gn, e_RF, (e_up N1 64 4 (e_w ((N1 64 4) + 1)))) o)))) : e_G X (d + 1) YX11_blanks 0 [some (.inr (.inr 64))] [] (557, gn, e_RF, M) o := by
  refine e_r_aload_n (pc' := 1) (by decide) dX11_blanks_0 rfl rfl rfl ?_
  refine e_r_aload_n (pc' := 2) (by decide) dX11_blanks_1 rfl rfl rfl ?_
  refine e_r_geti (k := 4) (pc' := 5) cl_11 rfl (Nat.le_of_ble_eq_true rfl) rfl rfl fl_RX11_106 dX11_blanks_2 rfl ?_
  obtain ⟨r2, N1, he3, h⟩ := h
  refine e_r_callV (a := 64) (av := [.inl (M 64 4)]) (st := []) mqYX11_byteAt ml_RX11_109 cl_11 rfl (Nat.le_of_ble_eq_true rfl) (by simp [e_cat]) rfl rfl rfl dX11_blanks_5 (pc' := 8) rfl he3 ⟨Nat.le_refl _, Nat.le_refl _⟩ hmo ?_
  refine e_r_bipush (pc' := 10) dX11_blanks_8 rfl (by decide) ?_
  obtain ⟨ht4, hf5⟩ := h
  refine e_r_icmp_ne (tgt := 26) (pc' := 13) dX11_blanks_10 rfl rfl (fun c => ?_) (fun c => ?_)
  · have h := ht4 c
    exact e_r_vret rfl dX11_blanks_26 h
  · have h := hf5 c
    refine e_r_aload_n (pc' := 14) (by decide) dX11_blanks_13 rfl rfl rfl ?_
    refine e_r_dup (pc' := 15) rfl dX11_blanks_14 rfl ?_
    refine e_r_geti (k := 4) (pc' := 18) cl_11 rfl (Nat.le_of_ble_eq_true rfl) rfl rfl fl_RX11_106 dX11_blanks_15 rfl ?_
    refine e_r_iconst (pc' := 19) dX11_blanks_18 rfl (by decide) ?_
    refine e_r_iadd (pc' := 20) dX11_blanks_19 rfl ?_
    refine e_r_puti (k := 4) (pc' := 23) cl_11 rfl (Nat.le_of_ble_eq_true rfl) rfl rfl fl_RX11_106 rfl (by decide +kernel) dX11_blanks_20 rfl ?_
    refine e_r_goto (pc' := 0) dX11_blanks_23 rfl ?_
    exact h
theorem wp_X11_wrong_0 {X : e_X} {d gn : Nat} {o : e_O} (M : e_M) (p1 p2 : Int) (h : ((¬ (M 64 5) = 0 → (o = (.inl none, (557, gn, e_RF, M)))) ∧ ((M 64 5) = 0 → (o = (.inl none, (557, gn, e_RF, (e_up (e_up M 64 5 p1) 64 6 p2))))))) : e_G X d YX11_wrong 0 [some (.inr (.inr 64)), some (.inl p1), some (.inl p2)] [] (557, gn, e_RF, M) o := by
  refine e_r_aload_n (pc' := 1) (by decide) dX11_wrong_0 rfl rfl rfl ?_
  refine e_r_geti (k := 5) (pc' := 4) cl_11 rfl (Nat.le_of_ble_eq_true rfl) rfl rfl fl_RX11_113 dX11_wrong_1 rfl ?_
  obtain ⟨ht1, hf2⟩ := h
  refine e_r_if_ne (tgt := 17) (pc' := 7) dX11_wrong_4 rfl rfl (fun c => ?_) (fun c => ?_)
  · have h := ht1 c
    exact e_r_vret rfl dX11_wrong_17 h
  · have h := hf2 c
    refine e_r_aload_n (pc' := 8) (by decide) dX11_wrong_7 rfl rfl rfl ?_
    refine e_r_iload_n (pc' := 9) dX11_wrong_8 rfl rfl rfl ?_
    refine e_r_puti (k := 5) (pc' := 12) cl_11 rfl (Nat.le_of_ble_eq_true rfl) rfl rfl fl_RX11_113 rfl (by decide +kernel) dX11_wrong_9 rfl ?_
    refine e_r_aload_n (pc' := 13) (by decide) dX11_wrong_12 rfl rfl rfl ?_
    refine e_r_iload_n (pc' := 14) dX11_wrong_13 rfl rfl rfl ?_
    refine e_r_puti (k := 6) (pc' := 17) cl_11 rfl (Nat.le_of_ble_eq_true rfl) rfl rfl fl_RX11_116 rfl (by decide +kernel) dX11_wrong_14 rfl ?_
    exact e_r_vret rfl dX11_wrong_17 h
theorem wp_X11_isDigit_0 {X : e_X} {d gn : Nat} {o : e_O} (M : e_M) (p0 : Int) (h : ((p0 < 48 → (o = (.inl (some (.inl 0)), (557, gn, e_RF, M)))) ∧ (¬ (p0 < 48) → ((57 < p0 → (o = (.inl (some (.inl 0)), (557, gn, e_RF, M)))) ∧ (¬ (57 < p0) → (o = (.inl (some (.inl 1)), (557, gn, e_RF, M)))))))) : e_G X d YX11_isDigit 0 [some (.inl p0)] [] (557, gn, e_RF, M) o := by
  refine e_r_iload_n (pc' := 1) dX11_isDigit_0 rfl rfl rfl ?_
  refine e_r_bipush (pc' := 3) dX11_isDigit_1 rfl (by decide) ?_
  obtain ⟨ht1, hf2⟩ := h
  refine e_r_icmp_lt (tgt := 16) (pc' := 6) dX11_isDigit_3 rfl rfl (fun c => ?_) (fun c => ?_)
  · have h := ht1 c
    refine e_r_iconst (pc' := 17) dX11_isDigit_16 rfl (by decide) ?_
    exact e_r_iret (ty := .boolean) rfl (e_nZ (by decide)) dX11_isDigit_17 h
  · have h := hf2 c
    refine e_r_iload_n (pc' := 7) dX11_isDigit_6 rfl rfl rfl ?_
    refine e_r_bipush (pc' := 9) dX11_isDigit_7 rfl (by decide) ?_
    obtain ⟨ht3, hf4⟩ := h
    refine e_r_icmp_gt (tgt := 16) (pc' := 12) dX11_isDigit_9 rfl rfl (fun c => ?_) (fun c => ?_)
    · have h := ht3 c
      refine e_r_iconst (pc' := 17) dX11_isDigit_16 rfl (by decide) ?_
      exact e_r_iret (ty := .boolean) rfl (e_nZ (by decide)) dX11_isDigit_17 h
    · have h := hf4 c
      refine e_r_iconst (pc' := 13) dX11_isDigit_12 rfl (by decide) ?_
      refine e_r_goto (pc' := 17) dX11_isDigit_13 rfl ?_
      exact e_r_iret (ty := .boolean) rfl (e_nZ (by decide)) dX11_isDigit_17 h
theorem wp_X11_isSmall_0 {X : e_X} {d gn : Nat} {o : e_O} (M : e_M) (p0 : Int) (h : ((p0 < 97 → (o = (.inl (some (.inl 0)), (557, gn, e_RF, M)))) ∧ (¬ (p0 < 97) → ((122 < p0 → (o = (.inl (some (.inl 0)), (557, gn, e_RF, M)))) ∧ (¬ (122 < p0) → (o = (.inl (some (.inl 1)), (557, gn, e_RF, M)))))))) : e_G X d YX11_isSmall 0 [some (.inl p0)] [] (557, gn, e_RF, M) o := by
  refine e_r_iload_n (pc' := 1) dX11_isSmall_0 rfl rfl rfl ?_
  refine e_r_bipush (pc' := 3) dX11_isSmall_1 rfl (by decide) ?_
  obtain ⟨ht1, hf2⟩ := h
  refine e_r_icmp_lt (tgt := 16) (pc' := 6) dX11_isSmall_3 rfl rfl (fun c => ?_) (fun c => ?_)
  · have h := ht1 c
    refine e_r_iconst (pc' := 17) dX11_isSmall_16 rfl (by decide) ?_
    exact e_r_iret (ty := .boolean) rfl (e_nZ (by decide)) dX11_isSmall_17 h
  · have h := hf2 c
    refine e_r_iload_n (pc' := 7) dX11_isSmall_6 rfl rfl rfl ?_
    refine e_r_bipush (pc' := 9) dX11_isSmall_7 rfl (by decide) ?_
    obtain ⟨ht3, hf4⟩ := h
    refine e_r_icmp_gt (tgt := 16) (pc' := 12) dX11_isSmall_9 rfl rfl (fun c => ?_) (fun c => ?_)
    · have h := ht3 c
      refine e_r_iconst (pc' := 17) dX11_isSmall_16 rfl (by decide) ?_
      exact e_r_iret (ty := .boolean) rfl (e_nZ (by decide)) dX11_isSmall_17 h
    · have h := hf4 c
      refine e_r_iconst (pc' := 13) dX11_isSmall_12 rfl (by decide) ?_
      refine e_r_goto (pc' := 17) dX11_isSmall_13 rfl ?_
      exact e_r_iret (ty := .boolean) rfl (e_nZ (by decide)) dX11_isSmall_17 h
theorem wp_X11_number_0 {X : e_X} {d gn : Nat} {o : e_O} (M : e_M) (p1 p2 : Int) (hmo : e_mn (557, gn, e_RF, M) o.2) (h : (((M 64 5) = 0 → (∃ N3 : e_M, e_E X d YX11_blanks [.inr (.inr 64)] (557, gn, e_RF, M) (.inl none, (557, gn, e_RF, N3)) ∧ (∃ (r6 : Int) (N5 : e_M), e_E X d YX11_byteAt [.inr (.inr 64), .inl (N3 64 4)] (557, gn, e_RF, N3) (.inl (some (.inl r6)), (557, gn, e_RF, N5)) ∧ (∃ (r9 : Int) (N8 : e_M), e_E X d YX11_isDigit [.inl r6] (557, gn, e_RF, N5) (.inl (some (.inl r9)), (557, gn, e_RF, N8)) ∧ ((¬ r9 = 0 → e_G X (d + 1) YX11_number 44 [some (.inr (.inr 64)), some (.inl p1), some (.inl p2), some (.inl (N3 64 4)), some (.inl 0)] [] (557, gn, e_RF, N8) o) ∧ (r9 = 0 → (∃ N13 : e_M, e_E X d YX11_wrong [.inr (.inr 64), .inl 1, .inl (N8 64 4)] (557, gn, e_RF, N8) (.inl none, (557, gn, e_RF, N13)) ∧ e_G X (d + 1) YX11_number 44 [some (.inr (.inr 64)), some (.inl p1), some (.inl p2), some (.inl (N3 64 4)), some (.inl 0)] [] (557, gn, e_RF, N13) o))))))) ∧ (¬ ((M 64 5) = 0) → (o = (.inl (some (.inl 0)), (557, gn, e_RF, M)))))) : e_G X (d + 1) YX11_number 0 [some (.inr (.inr 64)), some (.inl p1), some (.inl p2), none, none] [] (557, gn, e_RF, M) o := by
  refine e_r_aload_n (pc' := 1) (by decide) dX11_number_0 rfl rfl rfl ?_
  refine e_r_geti (k := 5) (pc' := 4) cl_11 rfl (Nat.le_of_ble_eq_true rfl) rfl rfl fl_RX11_113 dX11_number_1 rfl ?_
  obtain ⟨ht1, hf2⟩ := h
  refine e_r_if_eq (tgt := 9) (pc' := 7) dX11_number_4 rfl rfl (fun c => ?_) (fun c => ?_)
  · have h := ht1 c
    refine e_r_aload_n (pc' := 10) (by decide) dX11_number_9 rfl rfl rfl ?_
    obtain ⟨N3, he4, h⟩ := h
    refine e_r_callV (a := 64) (av := []) (st := []) mqYX11_blanks ml_RX11_119 cl_11 rfl (Nat.le_of_ble_eq_true rfl) (by simp [e_cat]) rfl rfl rfl dX11_number_10 (pc' := 13) rfl he4 ⟨Nat.le_refl _, Nat.le_refl _⟩ hmo ?_
    refine e_r_aload_n (pc' := 14) (by decide) dX11_number_13 rfl rfl rfl ?_
    refine e_r_geti (k := 4) (pc' := 17) cl_11 rfl (Nat.le_of_ble_eq_true rfl) rfl rfl fl_RX11_106 dX11_number_14 rfl ?_
    refine e_r_istore_n (pc' := 18) (loc' := [some (.inr (.inr 64)), some (.inl p1), some (.inl p2), some (.inl (N3 64 4)), none]) dX11_number_17 rfl rfl rfl rfl rfl ?_
    refine e_r_iconst (pc' := 19) dX11_number_18 rfl (by decide) ?_
    refine e_r_istore (pc' := 21) (loc' := [some (.inr (.inr 64)), some (.inl p1), some (.inl p2), some (.inl (N3 64 4)), some (.inl 0)]) dX11_number_19 rfl rfl rfl rfl ?_
    refine e_r_aload_n (pc' := 22) (by decide) dX11_number_21 rfl rfl rfl ?_
    refine e_r_aload_n (pc' := 23) (by decide) dX11_number_22 rfl rfl rfl ?_
    refine e_r_geti (k := 4) (pc' := 26) cl_11 rfl (Nat.le_of_ble_eq_true rfl) rfl rfl fl_RX11_106 dX11_number_23 rfl ?_
    obtain ⟨r6, N5, he7, h⟩ := h
    refine e_r_callV (a := 64) (av := [.inl (N3 64 4)]) (st := []) mqYX11_byteAt ml_RX11_109 cl_11 rfl (Nat.le_of_ble_eq_true rfl) (by simp [e_cat]) rfl rfl rfl dX11_number_26 (pc' := 29) rfl he7 ⟨Nat.le_refl _, Nat.le_refl _⟩ hmo ?_
    obtain ⟨r9, N8, he10, h⟩ := h
    refine e_r_callS (av := [.inl r6]) (st := []) mqYX11_isDigit ml_RX11_122 (by simp [e_cat]) rfl rfl rfl dX11_number_29 (pc' := 32) rfl he10 ⟨Nat.le_refl _, Nat.le_refl _⟩ hmo ?_
    obtain ⟨ht11, hf12⟩ := h
    refine e_r_if_ne (tgt := 44) (pc' := 35) dX11_number_32 rfl rfl (fun c => ?_) (fun c => ?_)
    · have h := ht11 c
      exact h
    · have h := hf12 c
      refine e_r_aload_n (pc' := 36) (by decide) dX11_number_35 rfl rfl rfl ?_
      refine e_r_iconst (pc' := 37) dX11_number_36 rfl (by decide) ?_
      refine e_r_aload_n (pc' := 38) (by decide) dX11_number_37 rfl rfl rfl ?_
      refine e_r_geti (k := 4) (pc' := 41) cl_11 rfl (Nat.le_of_ble_eq_true rfl) rfl rfl fl_RX11_106 dX11_number_38 rfl ?_
      obtain ⟨N13, he14, h⟩ := h
      refine e_r_callV (a := 64) (av := [.inl 1, .inl (N8 64 4)]) (st := []) mqYX11_wrong ml_RX11_126 cl_11 rfl (Nat.le_of_ble_eq_true rfl) (by simp [e_cat]) rfl rfl rfl dX11_number_41 (pc' := 44) rfl he14 ⟨Nat.le_refl _, Nat.le_refl _⟩ hmo ?_
      exact h
  · have h := hf2 c
    refine e_r_iconst (pc' := 8) dX11_number_7 rfl (by decide) ?_
    exact e_r_iret (ty := .int) rfl (e_nI _) dX11_number_8 h
theorem wp_X11_number_44 {X : e_X} {d gn : Nat} {o : e_O} (M : e_M) (p1 p2 v3 v4 : Int) (hmo : e_mn (557, gn, e_RF, M) o.2) (h : (∃ (r2 : Int) (N1 : e_M), e_E X d YX11_byteAt [.inr (.inr 64), .inl (M 64 4)] (557, gn, e_RF, M) (.inl (some (.inl r2)), (557, gn, e_RF, N1)) ∧ (∃ (r5 : Int) (N4 : e_M), e_E X d YX11_isDigit [.inl r2] (557, gn, e_RF, N1) (.inl (some (.inl r5)), (557, gn, e_RF, N4)) ∧ ((r5 = 0 → (∃ (r10 : Int) (N9 : e_M), e_E X d YX11_in [.inl v4, .inl p1, .inl p2] (557, gn, e_RF, N4) (.inl (some (.inl r10)), (557, gn, e_RF, N9)) ∧ ((¬ r10 = 0 → e_G X (d + 1) YX11_number 122 [some (.inr (.inr 64)), some (.inl p1), some (.inl p2), some (.inl v3), some (.inl v4)] [] (557, gn, e_RF, N9) o) ∧ (r10 = 0 → (∃ N14 : e_M, e_E X d YX11_wrong [.inr (.inr 64), .inl 2, .inl v3] (557, gn, e_RF, N9) (.inl none, (557, gn, e_RF, N14)) ∧ e_G X (d + 1) YX11_number 122 [some (.inr (.inr 64)), some (.inl p1), some (.inl p2), some (.inl v3), some (.inl v4)] [] (557, gn, e_RF, N14) o))))) ∧ (¬ (r5 = 0) → (∃ (r17 : Int) (N16 : e_M), e_E X d YX11_byteAt [.inr (.inr 64), .inl (N4 64 4)] (557, gn, e_RF, N4) (.inl (some (.inl r17)), (557, gn, e_RF, N16)) ∧ (((e_w ((e_w ((e_w (10 * v4)) + r17)) - 48)) ≤ 100000 → e_G X (d + 1) YX11_number 44 [some (.inr (.inr 64)), some (.inl p1), some (.inl p2), some (.inl v3), some (.inl (e_w ((e_w ((e_w (10 * v4)) + r17)) - 48)))] [] (557, gn, e_RF, (e_up N16 64 4 (e_w ((N16 64 4) + 1)))) o) ∧ (¬ ((e_w ((e_w ((e_w (10 * v4)) + r17)) - 48)) ≤ 100000) → e_G X (d + 1) YX11_number 44 [some (.inr (.inr 64)), some (.inl p1), some (.inl p2), some (.inl v3), some (.inl 100000)] [] (557, gn, e_RF, (e_up N16 64 4 (e_w ((N16 64 4) + 1)))) o)))))))) : e_G X (d + 1) YX11_number 44 [some (.inr (.inr 64)), some (.inl p1), some (.inl p2), some (.inl v3), some (.inl v4)] [] (557, gn, e_RF, M) o := by
  refine e_r_aload_n (pc' := 45) (by decide) dX11_number_44 rfl rfl rfl ?_
  refine e_r_aload_n (pc' := 46) (by decide) dX11_number_45 rfl rfl rfl ?_
  refine e_r_geti (k := 4) (pc' := 49) cl_11 rfl (Nat.le_of_ble_eq_true rfl) rfl rfl fl_RX11_106 dX11_number_46 rfl ?_
  obtain ⟨r2, N1, he3, h⟩ := h
  refine e_r_callV (a := 64) (av := [.inl (M 64 4)]) (st := []) mqYX11_byteAt ml_RX11_109 cl_11 rfl (Nat.le_of_ble_eq_true rfl) (by simp [e_cat]) rfl rfl rfl dX11_number_49 (pc' := 52) rfl he3 ⟨Nat.le_refl _, Nat.le_refl _⟩ hmo ?_
  obtain ⟨r5, N4, he6, h⟩ := h
  refine e_r_callS (av := [.inl r2]) (st := []) mqYX11_isDigit ml_RX11_122 (by simp [e_cat]) rfl rfl rfl dX11_number_52 (pc' := 55) rfl he6 ⟨Nat.le_refl _, Nat.le_refl _⟩ hmo ?_
  obtain ⟨ht7, hf8⟩ := h
  refine e_r_if_eq (tgt := 106) (pc' := 58) dX11_number_55 rfl rfl (fun c => ?_) (fun c => ?_)
  · have h := ht7 c
    refine e_r_iload (pc' := 108) dX11_number_106 rfl rfl ?_
    refine e_r_iload_n (pc' := 109) dX11_number_108 rfl rfl rfl ?_
    refine e_r_iload_n (pc' := 110) dX11_number_109 rfl rfl rfl ?_
    obtain ⟨r10, N9, he11, h⟩ := h
    refine e_r_callS (av := [.inl v4, .inl p1, .inl p2]) (st := []) mqYX11_in ml_RX11_131 (by simp [e_cat]) rfl rfl rfl dX11_number_110 (pc' := 113) rfl he11 ⟨Nat.le_refl _, Nat.le_refl _⟩ hmo ?_
    obtain ⟨ht12, hf13⟩ := h
    refine e_r_if_ne (tgt := 122) (pc' := 116) dX11_number_113 rfl rfl (fun c => ?_) (fun c => ?_)
    · have h := ht12 c
      exact h
    · have h := hf13 c
      refine e_r_aload_n (pc' := 117) (by decide) dX11_number_116 rfl rfl rfl ?_
      refine e_r_iconst (pc' := 118) dX11_number_117 rfl (by decide) ?_
      refine e_r_iload_n (pc' := 119) dX11_number_118 rfl rfl rfl ?_
      obtain ⟨N14, he15, h⟩ := h
      refine e_r_callV (a := 64) (av := [.inl 2, .inl v3]) (st := []) mqYX11_wrong ml_RX11_126 cl_11 rfl (Nat.le_of_ble_eq_true rfl) (by simp [e_cat]) rfl rfl rfl dX11_number_119 (pc' := 122) rfl he15 ⟨Nat.le_refl _, Nat.le_refl _⟩ hmo ?_
      exact h
  · have h := hf8 c
    refine e_r_bipush (pc' := 60) dX11_number_58 rfl (by decide) ?_
    refine e_r_iload (pc' := 62) dX11_number_60 rfl rfl ?_
    refine e_r_imul (pc' := 63) dX11_number_62 rfl ?_
    refine e_r_aload_n (pc' := 64) (by decide) dX11_number_63 rfl rfl rfl ?_
    refine e_r_aload_n (pc' := 65) (by decide) dX11_number_64 rfl rfl rfl ?_
    refine e_r_geti (k := 4) (pc' := 68) cl_11 rfl (Nat.le_of_ble_eq_true rfl) rfl rfl fl_RX11_106 dX11_number_65 rfl ?_
    obtain ⟨r17, N16, he18, h⟩ := h
    refine e_r_callV (a := 64) (av := [.inl (N4 64 4)]) (st := [.inl (e_w (10 * v4))]) mqYX11_byteAt ml_RX11_109 cl_11 rfl (Nat.le_of_ble_eq_true rfl) (by simp [e_cat]) rfl rfl rfl dX11_number_68 (pc' := 71) rfl he18 ⟨Nat.le_refl _, Nat.le_refl _⟩ hmo ?_
    refine e_r_iadd (pc' := 72) dX11_number_71 rfl ?_
    refine e_r_bipush (pc' := 74) dX11_number_72 rfl (by decide) ?_
    refine e_r_isub (pc' := 75) dX11_number_74 rfl ?_
    refine e_r_istore (pc' := 77) (loc' := [some (.inr (.inr 64)), some (.inl p1), some (.inl p2), some (.inl v3), some (.inl (e_w ((e_w ((e_w (10 * v4)) + r17)) - 48)))]) dX11_number_75 rfl rfl rfl rfl ?_
    refine e_r_iload (pc' := 79) dX11_number_77 rfl rfl ?_
    refine e_r_ldc (pc' := 81) (n := 100000) cst_RX11_130 dX11_number_79 rfl (by decide) ?_
    obtain ⟨ht19, hf20⟩ := h
    refine e_r_icmp_le (tgt := 89) (pc' := 84) dX11_number_81 rfl rfl (fun c => ?_) (fun c => ?_)
    · have h := ht19 c
      refine e_r_iload (pc' := 91) dX11_number_89 rfl rfl ?_
      refine e_r_istore (pc' := 93) (loc' := [some (.inr (.inr 64)), some (.inl p1), some (.inl p2), some (.inl v3), some (.inl (e_w ((e_w ((e_w (10 * v4)) + r17)) - 48)))]) dX11_number_91 rfl rfl rfl rfl ?_
      refine e_r_aload_n (pc' := 94) (by decide) dX11_number_93 rfl rfl rfl ?_
      refine e_r_dup (pc' := 95) rfl dX11_number_94 rfl ?_
      refine e_r_geti (k := 4) (pc' := 98) cl_11 rfl (Nat.le_of_ble_eq_true rfl) rfl rfl fl_RX11_106 dX11_number_95 rfl ?_
      refine e_r_iconst (pc' := 99) dX11_number_98 rfl (by decide) ?_
      refine e_r_iadd (pc' := 100) dX11_number_99 rfl ?_
      refine e_r_puti (k := 4) (pc' := 103) cl_11 rfl (Nat.le_of_ble_eq_true rfl) rfl rfl fl_RX11_106 rfl (by decide +kernel) dX11_number_100 rfl ?_
      refine e_r_goto (pc' := 44) dX11_number_103 rfl ?_
      exact h
    · have h := hf20 c
      refine e_r_ldc (pc' := 86) (n := 100000) cst_RX11_130 dX11_number_84 rfl (by decide) ?_
      refine e_r_goto (pc' := 91) dX11_number_86 rfl ?_
      refine e_r_istore (pc' := 93) (loc' := [some (.inr (.inr 64)), some (.inl p1), some (.inl p2), some (.inl v3), some (.inl 100000)]) dX11_number_91 rfl rfl rfl rfl ?_
      refine e_r_aload_n (pc' := 94) (by decide) dX11_number_93 rfl rfl rfl ?_
      refine e_r_dup (pc' := 95) rfl dX11_number_94 rfl ?_
      refine e_r_geti (k := 4) (pc' := 98) cl_11 rfl (Nat.le_of_ble_eq_true rfl) rfl rfl fl_RX11_106 dX11_number_95 rfl ?_
      refine e_r_iconst (pc' := 99) dX11_number_98 rfl (by decide) ?_
      refine e_r_iadd (pc' := 100) dX11_number_99 rfl ?_
      refine e_r_puti (k := 4) (pc' := 103) cl_11 rfl (Nat.le_of_ble_eq_true rfl) rfl rfl fl_RX11_106 rfl (by decide +kernel) dX11_number_100 rfl ?_
      refine e_r_goto (pc' := 44) dX11_number_103 rfl ?_
      exact h
theorem wp_X11_number_122 {X : e_X} {d gn : Nat} {o : e_O} (M : e_M) (p1 p2 v3 v4 : Int) (h : ((¬ (M 64 5) = 0 → (o = (.inl (some (.inl 0)), (557, gn, e_RF, M)))) ∧ ((M 64 5) = 0 → (o = (.inl (some (.inl v4)), (557, gn, e_RF, M)))))) : e_G X (d + 1) YX11_number 122 [some (.inr (.inr 64)), some (.inl p1), some (.inl p2), some (.inl v3), some (.inl v4)] [] (557, gn, e_RF, M) o := by
  refine e_r_aload_n (pc' := 123) (by decide) dX11_number_122 rfl rfl rfl ?_
  refine e_r_geti (k := 5) (pc' := 126) cl_11 rfl (Nat.le_of_ble_eq_true rfl) rfl rfl fl_RX11_113 dX11_number_123 rfl ?_
  obtain ⟨ht1, hf2⟩ := h
  refine e_r_if_ne (tgt := 134) (pc' := 129) dX11_number_126 rfl rfl (fun c => ?_) (fun c => ?_)
  · have h := ht1 c
    refine e_r_iconst (pc' := 135) dX11_number_134 rfl (by decide) ?_
    exact e_r_iret (ty := .int) rfl (e_nI _) dX11_number_135 h
  · have h := hf2 c
    refine e_r_iload (pc' := 131) dX11_number_129 rfl rfl ?_
    refine e_r_goto (pc' := 135) dX11_number_131 rfl ?_
    exact e_r_iret (ty := .int) rfl (e_nI _) dX11_number_135 h
theorem wp_X11_wordHere_0 {X : e_X} {d gn : Nat} {o : e_O} (M : e_M) (hmo : e_mn (557, gn, e_RF, M) o.2) (h : (∃ N1 : e_M, e_E X d YX11_blanks [.inr (.inr 64)] (557, gn, e_RF, M) (.inl none, (557, gn, e_RF, N1)) ∧ e_G X (d + 1) YX11_wordHere 8 [some (.inr (.inr 64)), some (.inl 0), some (.inl 0)] [] (557, gn, e_RF, N1) o)) : e_G X (d + 1) YX11_wordHere 0 [some (.inr (.inr 64)), none, none] [] (557, gn, e_RF, M) o := by
  refine e_r_aload_n (pc' := 1) (by decide) dX11_wordHere_0 rfl rfl rfl ?_
  obtain ⟨N1, he2, h⟩ := h
  refine e_r_callV (a := 64) (av := []) (st := []) mqYX11_blanks ml_RX11_119 cl_11 rfl (Nat.le_of_ble_eq_true rfl) (by simp [e_cat]) rfl rfl rfl dX11_wordHere_1 (pc' := 4) rfl he2 ⟨Nat.le_refl _, Nat.le_refl _⟩ hmo ?_
  refine e_r_iconst (pc' := 5) dX11_wordHere_4 rfl (by decide) ?_
  refine e_r_istore_n (pc' := 6) (loc' := [some (.inr (.inr 64)), some (.inl 0), none]) dX11_wordHere_5 rfl rfl rfl rfl rfl ?_
  refine e_r_iconst (pc' := 7) dX11_wordHere_6 rfl (by decide) ?_
  refine e_r_istore_n (pc' := 8) (loc' := [some (.inr (.inr 64)), some (.inl 0), some (.inl 0)]) dX11_wordHere_7 rfl rfl rfl rfl rfl ?_
  exact h
theorem wp_X11_wordHere_8 {X : e_X} {d gn : Nat} {o : e_O} (M : e_M) (v1 v2 : Int) (hmo : e_mn (557, gn, e_RF, M) o.2) (h : (∃ (r2 : Int) (N1 : e_M), e_E X d YX11_byteAt [.inr (.inr 64), .inl (e_w ((M 64 4) + v2))] (557, gn, e_RF, M) (.inl (some (.inl r2)), (557, gn, e_RF, N1)) ∧ (∃ (r5 : Int) (N4 : e_M), e_E X d YX11_isSmall [.inl r2] (557, gn, e_RF, N1) (.inl (some (.inl r5)), (557, gn, e_RF, N4)) ∧ ((r5 = 0 → ((v2 ≤ 6 → (o = (.inl (some (.inl v1)), (557, gn, e_RF, N4)))) ∧ (¬ (v2 ≤ 6) → (o = (.inl (some (.inl (-1))), (557, gn, e_RF, N4)))))) ∧ (¬ (r5 = 0) → ((6 ≤ v2 → e_G X (d + 1) YX11_wordHere 8 [some (.inr (.inr 64)), some (.inl v1), some (.inl (e_w (v2 + 1)))] [] (557, gn, e_RF, N4) o) ∧ (¬ (6 ≤ v2) → (∃ (r14 : Int) (N13 : e_M), e_E X d YX11_byteAt [.inr (.inr 64), .inl (e_w ((N4 64 4) + v2))] (557, gn, e_RF, N4) (.inl (some (.inl r14)), (557, gn, e_RF, N13)) ∧ e_G X (d + 1) YX11_wordHere 8 [some (.inr (.inr 64)), some (.inl (e_w ((e_w ((e_w ((e_w (27 * v1)) + r14)) - 97)) + 1))), some (.inl (e_w (v2 + 1)))] [] (557, gn, e_RF, N13) o)))))))) : e_G X (d + 1) YX11_wordHere 8 [some (.inr (.inr 64)), some (.inl v1), some (.inl v2)] [] (557, gn, e_RF, M) o := by
  refine e_r_aload_n (pc' := 9) (by decide) dX11_wordHere_8 rfl rfl rfl ?_
  refine e_r_aload_n (pc' := 10) (by decide) dX11_wordHere_9 rfl rfl rfl ?_
  refine e_r_geti (k := 4) (pc' := 13) cl_11 rfl (Nat.le_of_ble_eq_true rfl) rfl rfl fl_RX11_106 dX11_wordHere_10 rfl ?_
  refine e_r_iload_n (pc' := 14) dX11_wordHere_13 rfl rfl rfl ?_
  refine e_r_iadd (pc' := 15) dX11_wordHere_14 rfl ?_
  obtain ⟨r2, N1, he3, h⟩ := h
  refine e_r_callV (a := 64) (av := [.inl (e_w ((M 64 4) + v2))]) (st := []) mqYX11_byteAt ml_RX11_109 cl_11 rfl (Nat.le_of_ble_eq_true rfl) (by simp [e_cat]) rfl rfl rfl dX11_wordHere_15 (pc' := 18) rfl he3 ⟨Nat.le_refl _, Nat.le_refl _⟩ hmo ?_
  obtain ⟨r5, N4, he6, h⟩ := h
  refine e_r_callS (av := [.inl r2]) (st := []) mqYX11_isSmall ml_RX11_135 (by simp [e_cat]) rfl rfl rfl dX11_wordHere_18 (pc' := 21) rfl he6 ⟨Nat.le_refl _, Nat.le_refl _⟩ hmo ?_
  obtain ⟨ht7, hf8⟩ := h
  refine e_r_if_eq (tgt := 61) (pc' := 24) dX11_wordHere_21 rfl rfl (fun c => ?_) (fun c => ?_)
  · have h := ht7 c
    refine e_r_iload_n (pc' := 62) dX11_wordHere_61 rfl rfl rfl ?_
    refine e_r_bipush (pc' := 64) dX11_wordHere_62 rfl (by decide) ?_
    obtain ⟨ht9, hf10⟩ := h
    refine e_r_icmp_le (tgt := 71) (pc' := 67) dX11_wordHere_64 rfl rfl (fun c => ?_) (fun c => ?_)
    · have h := ht9 c
      refine e_r_iload_n (pc' := 72) dX11_wordHere_71 rfl rfl rfl ?_
      exact e_r_iret (ty := .int) rfl (e_nI _) dX11_wordHere_72 h
    · have h := hf10 c
      refine e_r_iconst (pc' := 68) dX11_wordHere_67 rfl (by decide) ?_
      refine e_r_goto (pc' := 72) dX11_wordHere_68 rfl ?_
      exact e_r_iret (ty := .int) rfl (e_nI _) dX11_wordHere_72 h
  · have h := hf8 c
    refine e_r_iload_n (pc' := 25) dX11_wordHere_24 rfl rfl rfl ?_
    refine e_r_bipush (pc' := 27) dX11_wordHere_25 rfl (by decide) ?_
    obtain ⟨ht11, hf12⟩ := h
    refine e_r_icmp_ge (tgt := 53) (pc' := 30) dX11_wordHere_27 rfl rfl (fun c => ?_) (fun c => ?_)
    · have h := ht11 c
      refine e_r_iload_n (pc' := 54) dX11_wordHere_53 rfl rfl rfl ?_
      refine e_r_istore_n (pc' := 55) (loc' := [some (.inr (.inr 64)), some (.inl v1), some (.inl v2)]) dX11_wordHere_54 rfl rfl rfl rfl rfl ?_
      refine e_r_iinc (pc' := 58) (loc' := [some (.inr (.inr 64)), some (.inl v1), some (.inl (e_w (v2 + 1)))]) dX11_wordHere_55 rfl rfl rfl rfl rfl ?_
      refine e_r_goto (pc' := 8) dX11_wordHere_58 rfl ?_
      exact h
    · have h := hf12 c
      refine e_r_bipush (pc' := 32) dX11_wordHere_30 rfl (by decide) ?_
      refine e_r_iload_n (pc' := 33) dX11_wordHere_32 rfl rfl rfl ?_
      refine e_r_imul (pc' := 34) dX11_wordHere_33 rfl ?_
      refine e_r_aload_n (pc' := 35) (by decide) dX11_wordHere_34 rfl rfl rfl ?_
      refine e_r_aload_n (pc' := 36) (by decide) dX11_wordHere_35 rfl rfl rfl ?_
      refine e_r_geti (k := 4) (pc' := 39) cl_11 rfl (Nat.le_of_ble_eq_true rfl) rfl rfl fl_RX11_106 dX11_wordHere_36 rfl ?_
      refine e_r_iload_n (pc' := 40) dX11_wordHere_39 rfl rfl rfl ?_
      refine e_r_iadd (pc' := 41) dX11_wordHere_40 rfl ?_
      obtain ⟨r14, N13, he15, h⟩ := h
      refine e_r_callV (a := 64) (av := [.inl (e_w ((N4 64 4) + v2))]) (st := [.inl (e_w (27 * v1))]) mqYX11_byteAt ml_RX11_109 cl_11 rfl (Nat.le_of_ble_eq_true rfl) (by simp [e_cat]) rfl rfl rfl dX11_wordHere_41 (pc' := 44) rfl he15 ⟨Nat.le_refl _, Nat.le_refl _⟩ hmo ?_
      refine e_r_iadd (pc' := 45) dX11_wordHere_44 rfl ?_
      refine e_r_bipush (pc' := 47) dX11_wordHere_45 rfl (by decide) ?_
      refine e_r_isub (pc' := 48) dX11_wordHere_47 rfl ?_
      refine e_r_iconst (pc' := 49) dX11_wordHere_48 rfl (by decide) ?_
      refine e_r_iadd (pc' := 50) dX11_wordHere_49 rfl ?_
      refine e_r_goto (pc' := 54) dX11_wordHere_50 rfl ?_
      refine e_r_istore_n (pc' := 55) (loc' := [some (.inr (.inr 64)), some (.inl (e_w ((e_w ((e_w ((e_w (27 * v1)) + r14)) - 97)) + 1))), some (.inl v2)]) dX11_wordHere_54 rfl rfl rfl rfl rfl ?_
      refine e_r_iinc (pc' := 58) (loc' := [some (.inr (.inr 64)), some (.inl (e_w ((e_w ((e_w ((e_w (27 * v1)) + r14)) - 97)) + 1))), some (.inl (e_w (v2 + 1)))]) dX11_wordHere_55 rfl rfl rfl rfl rfl ?_
      refine e_r_goto (pc' := 8) dX11_wordHere_58 rfl ?_
      exact h
theorem wp_X11_six_0 {X : e_X} {d gn : Nat} {o : e_O} (M : e_M) (p0 p1 p2 p3 p4 p5 : Int) (h : ((¬ p3 = 0 → e_G X d YX11_six 29 [some (.inl p0), some (.inl p1), some (.inl p2), some (.inl p3), some (.inl p4), some (.inl p5), some (.inl (e_w ((e_w (27 * (e_w ((e_w (27 * p0)) + p1)))) + p2)))] [.inl (e_w ((e_w (27 * (e_w ((e_w (27 * (e_w ((e_w (27 * p0)) + p1)))) + p2)))) + p3))] (557, gn, e_RF, M) o) ∧ (p3 = 0 → e_G X d YX11_six 29 [some (.inl p0), some (.inl p1), some (.inl p2), some (.inl p3), some (.inl p4), some (.inl p5), some (.inl (e_w ((e_w (27 * (e_w ((e_w (27 * p0)) + p1)))) + p2)))] [.inl (e_w ((e_w (27 * (e_w ((e_w (27 * p0)) + p1)))) + p2))] (557, gn, e_RF, M) o))) : e_G X d YX11_six 0 [some (.inl p0), some (.inl p1), some (.inl p2), some (.inl p3), some (.inl p4), some (.inl p5), none] [] (557, gn, e_RF, M) o := by
  refine e_r_bipush (pc' := 2) dX11_six_0 rfl (by decide) ?_
  refine e_r_bipush (pc' := 4) dX11_six_2 rfl (by decide) ?_
  refine e_r_iload_n (pc' := 5) dX11_six_4 rfl rfl rfl ?_
  refine e_r_imul (pc' := 6) dX11_six_5 rfl ?_
  refine e_r_iload_n (pc' := 7) dX11_six_6 rfl rfl rfl ?_
  refine e_r_iadd (pc' := 8) dX11_six_7 rfl ?_
  refine e_r_imul (pc' := 9) dX11_six_8 rfl ?_
  refine e_r_iload_n (pc' := 10) dX11_six_9 rfl rfl rfl ?_
  refine e_r_iadd (pc' := 11) dX11_six_10 rfl ?_
  refine e_r_istore (pc' := 13) (loc' := [some (.inl p0), some (.inl p1), some (.inl p2), some (.inl p3), some (.inl p4), some (.inl p5), some (.inl (e_w ((e_w (27 * (e_w ((e_w (27 * p0)) + p1)))) + p2)))]) dX11_six_11 rfl rfl rfl rfl ?_
  refine e_r_iload_n (pc' := 14) dX11_six_13 rfl rfl rfl ?_
  obtain ⟨ht1, hf2⟩ := h
  refine e_r_if_ne (tgt := 22) (pc' := 17) dX11_six_14 rfl rfl (fun c => ?_) (fun c => ?_)
  · have h := ht1 c
    refine e_r_bipush (pc' := 24) dX11_six_22 rfl (by decide) ?_
    refine e_r_iload (pc' := 26) dX11_six_24 rfl rfl ?_
    refine e_r_imul (pc' := 27) dX11_six_26 rfl ?_
    refine e_r_iload_n (pc' := 28) dX11_six_27 rfl rfl rfl ?_
    refine e_r_iadd (pc' := 29) dX11_six_28 rfl ?_
    exact h
  · have h := hf2 c
    refine e_r_iload (pc' := 19) dX11_six_17 rfl rfl ?_
    refine e_r_goto (pc' := 29) dX11_six_19 rfl ?_
    exact h
theorem wp_X11_six_29 {X : e_X} {d gn : Nat} {o : e_O} (M : e_M) (p0 p1 p2 p3 p4 p5 v6 w0 : Int) (h : ((¬ p4 = 0 → e_G X d YX11_six 49 [some (.inl p0), some (.inl p1), some (.inl p2), some (.inl p3), some (.inl p4), some (.inl p5), some (.inl w0)] [.inl (e_w ((e_w (27 * w0)) + p4))] (557, gn, e_RF, M) o) ∧ (p4 = 0 → e_G X d YX11_six 49 [some (.inl p0), some (.inl p1), some (.inl p2), some (.inl p3), some (.inl p4), some (.inl p5), some (.inl w0)] [.inl w0] (557, gn, e_RF, M) o))) : e_G X d YX11_six 29 [some (.inl p0), some (.inl p1), some (.inl p2), some (.inl p3), some (.inl p4), some (.inl p5), some (.inl v6)] [.inl w0] (557, gn, e_RF, M) o := by
  refine e_r_istore (pc' := 31) (loc' := [some (.inl p0), some (.inl p1), some (.inl p2), some (.inl p3), some (.inl p4), some (.inl p5), some (.inl w0)]) dX11_six_29 rfl rfl rfl rfl ?_
  refine e_r_iload (pc' := 33) dX11_six_31 rfl rfl ?_
  obtain ⟨ht1, hf2⟩ := h
  refine e_r_if_ne (tgt := 41) (pc' := 36) dX11_six_33 rfl rfl (fun c => ?_) (fun c => ?_)
  · have h := ht1 c
    refine e_r_bipush (pc' := 43) dX11_six_41 rfl (by decide) ?_
    refine e_r_iload (pc' := 45) dX11_six_43 rfl rfl ?_
    refine e_r_imul (pc' := 46) dX11_six_45 rfl ?_
    refine e_r_iload (pc' := 48) dX11_six_46 rfl rfl ?_
    refine e_r_iadd (pc' := 49) dX11_six_48 rfl ?_
    exact h
  · have h := hf2 c
    refine e_r_iload (pc' := 38) dX11_six_36 rfl rfl ?_
    refine e_r_goto (pc' := 49) dX11_six_38 rfl ?_
    exact h
theorem wp_X11_six_49 {X : e_X} {d gn : Nat} {o : e_O} (M : e_M) (p0 p1 p2 p3 p4 p5 v6 w0 : Int) (h : ((¬ p5 = 0 → (o = (.inl (some (.inl (e_w ((e_w (27 * w0)) + p5)))), (557, gn, e_RF, M)))) ∧ (p5 = 0 → (o = (.inl (some (.inl w0)), (557, gn, e_RF, M)))))) : e_G X d YX11_six 49 [some (.inl p0), some (.inl p1), some (.inl p2), some (.inl p3), some (.inl p4), some (.inl p5), some (.inl v6)] [.inl w0] (557, gn, e_RF, M) o := by
  refine e_r_istore (pc' := 51) (loc' := [some (.inl p0), some (.inl p1), some (.inl p2), some (.inl p3), some (.inl p4), some (.inl p5), some (.inl w0)]) dX11_six_49 rfl rfl rfl rfl ?_
  refine e_r_iload (pc' := 53) dX11_six_51 rfl rfl ?_
  obtain ⟨ht1, hf2⟩ := h
  refine e_r_if_ne (tgt := 61) (pc' := 56) dX11_six_53 rfl rfl (fun c => ?_) (fun c => ?_)
  · have h := ht1 c
    refine e_r_bipush (pc' := 63) dX11_six_61 rfl (by decide) ?_
    refine e_r_iload (pc' := 65) dX11_six_63 rfl rfl ?_
    refine e_r_imul (pc' := 66) dX11_six_65 rfl ?_
    refine e_r_iload (pc' := 68) dX11_six_66 rfl rfl ?_
    refine e_r_iadd (pc' := 69) dX11_six_68 rfl ?_
    exact e_r_iret (ty := .int) rfl (e_nI _) dX11_six_69 h
  · have h := hf2 c
    refine e_r_iload (pc' := 58) dX11_six_56 rfl rfl ?_
    refine e_r_goto (pc' := 69) dX11_six_58 rfl ?_
    exact e_r_iret (ty := .int) rfl (e_nI _) dX11_six_69 h
theorem wp_X11_isWord_0 {X : e_X} {d gn : Nat} {o : e_O} (M : e_M) (p1 p2 p3 p4 p5 p6 : Int) (hmo : e_mn (557, gn, e_RF, M) o.2) (h : ((¬ (M 64 5) = 0 → (o = (.inl (some (.inl 0)), (557, gn, e_RF, M)))) ∧ ((M 64 5) = 0 → (∃ (r4 : Int) (N3 : e_M), e_E X d YX11_wordHere [.inr (.inr 64)] (557, gn, e_RF, M) (.inl (some (.inl r4)), (557, gn, e_RF, N3)) ∧ (∃ (r7 : Int) (N6 : e_M), e_E X d YX11_six [.inl p1, .inl p2, .inl p3, .inl p4, .inl p5, .inl p6] (557, gn, e_RF, N3) (.inl (some (.inl r7)), (557, gn, e_RF, N6)) ∧ ((¬ r4 = r7 → (o = (.inl (some (.inl 0)), (557, gn, e_RF, N6)))) ∧ (r4 = r7 → (o = (.inl (some (.inl 1)), (557, gn, e_RF, N6)))))))))) : e_G X (d + 1) YX11_isWord 0 [some (.inr (.inr 64)), some (.inl p1), some (.inl p2), some (.inl p3), some (.inl p4), some (.inl p5), some (.inl p6)] [] (557, gn, e_RF, M) o := by
  refine e_r_aload_n (pc' := 1) (by decide) dX11_isWord_0 rfl rfl rfl ?_
  refine e_r_geti (k := 5) (pc' := 4) cl_11 rfl (Nat.le_of_ble_eq_true rfl) rfl rfl fl_RX11_113 dX11_isWord_1 rfl ?_
  obtain ⟨ht1, hf2⟩ := h
  refine e_r_if_ne (tgt := 30) (pc' := 7) dX11_isWord_4 rfl rfl (fun c => ?_) (fun c => ?_)
  · have h := ht1 c
    refine e_r_iconst (pc' := 31) dX11_isWord_30 rfl (by decide) ?_
    exact e_r_iret (ty := .boolean) rfl (e_nZ (by decide)) dX11_isWord_31 h
  · have h := hf2 c
    refine e_r_aload_n (pc' := 8) (by decide) dX11_isWord_7 rfl rfl rfl ?_
    obtain ⟨r4, N3, he5, h⟩ := h
    refine e_r_callV (a := 64) (av := []) (st := []) mqYX11_wordHere ml_RX11_138 cl_11 rfl (Nat.le_of_ble_eq_true rfl) (by simp [e_cat]) rfl rfl rfl dX11_isWord_8 (pc' := 11) rfl he5 ⟨Nat.le_refl _, Nat.le_refl _⟩ hmo ?_
    refine e_r_iload_n (pc' := 12) dX11_isWord_11 rfl rfl rfl ?_
    refine e_r_iload_n (pc' := 13) dX11_isWord_12 rfl rfl rfl ?_
    refine e_r_iload_n (pc' := 14) dX11_isWord_13 rfl rfl rfl ?_
    refine e_r_iload (pc' := 16) dX11_isWord_14 rfl rfl ?_
    refine e_r_iload (pc' := 18) dX11_isWord_16 rfl rfl ?_
    refine e_r_iload (pc' := 20) dX11_isWord_18 rfl rfl ?_
    obtain ⟨r7, N6, he8, h⟩ := h
    refine e_r_callS (av := [.inl p1, .inl p2, .inl p3, .inl p4, .inl p5, .inl p6]) (st := [.inl r4]) mqYX11_six ml_RX11_142 (by simp [e_cat]) rfl rfl rfl dX11_isWord_20 (pc' := 23) rfl he8 ⟨Nat.le_refl _, Nat.le_refl _⟩ hmo ?_
    obtain ⟨ht9, hf10⟩ := h
    refine e_r_icmp_ne (tgt := 30) (pc' := 26) dX11_isWord_23 rfl rfl (fun c => ?_) (fun c => ?_)
    · have h := ht9 c
      refine e_r_iconst (pc' := 31) dX11_isWord_30 rfl (by decide) ?_
      exact e_r_iret (ty := .boolean) rfl (e_nZ (by decide)) dX11_isWord_31 h
    · have h := hf10 c
      refine e_r_iconst (pc' := 27) dX11_isWord_26 rfl (by decide) ?_
      refine e_r_goto (pc' := 31) dX11_isWord_27 rfl ?_
      exact e_r_iret (ty := .boolean) rfl (e_nZ (by decide)) dX11_isWord_31 h
theorem wp_X11_skipWord_0 {X : e_X} {d gn : Nat} {o : e_O} (M : e_M) (hmo : e_mn (557, gn, e_RF, M) o.2) (h : (∃ (r2 : Int) (N1 : e_M), e_E X d YX11_byteAt [.inr (.inr 64), .inl (M 64 4)] (557, gn, e_RF, M) (.inl (some (.inl r2)), (557, gn, e_RF, N1)) ∧ (∃ (r5 : Int) (N4 : e_M), e_E X d YX11_isSmall [.inl r2] (557, gn, e_RF, N1) (.inl (some (.inl r5)), (557, gn, e_RF, N4)) ∧ ((r5 = 0 → (o = (.inl none, (557, gn, e_RF, N4)))) ∧ (¬ (r5 = 0) → e_G X (d + 1) YX11_skipWord 0 [some (.inr (.inr 64))] [] (557, gn, e_RF, (e_up N4 64 4 (e_w ((N4 64 4) + 1)))) o))))) : e_G X (d + 1) YX11_skipWord 0 [some (.inr (.inr 64))] [] (557, gn, e_RF, M) o := by
  refine e_r_aload_n (pc' := 1) (by decide) dX11_skipWord_0 rfl rfl rfl ?_
  refine e_r_aload_n (pc' := 2) (by decide) dX11_skipWord_1 rfl rfl rfl ?_
  refine e_r_geti (k := 4) (pc' := 5) cl_11 rfl (Nat.le_of_ble_eq_true rfl) rfl rfl fl_RX11_106 dX11_skipWord_2 rfl ?_
  obtain ⟨r2, N1, he3, h⟩ := h
  refine e_r_callV (a := 64) (av := [.inl (M 64 4)]) (st := []) mqYX11_byteAt ml_RX11_109 cl_11 rfl (Nat.le_of_ble_eq_true rfl) (by simp [e_cat]) rfl rfl rfl dX11_skipWord_5 (pc' := 8) rfl he3 ⟨Nat.le_refl _, Nat.le_refl _⟩ hmo ?_
  obtain ⟨r5, N4, he6, h⟩ := h
  refine e_r_callS (av := [.inl r2]) (st := []) mqYX11_isSmall ml_RX11_135 (by simp [e_cat]) rfl rfl rfl dX11_skipWord_8 (pc' := 11) rfl he6 ⟨Nat.le_refl _, Nat.le_refl _⟩ hmo ?_
  obtain ⟨ht7, hf8⟩ := h
  refine e_r_if_eq (tgt := 27) (pc' := 14) dX11_skipWord_11 rfl rfl (fun c => ?_) (fun c => ?_)
  · have h := ht7 c
    exact e_r_vret rfl dX11_skipWord_27 h
  · have h := hf8 c
    refine e_r_aload_n (pc' := 15) (by decide) dX11_skipWord_14 rfl rfl rfl ?_
    refine e_r_dup (pc' := 16) rfl dX11_skipWord_15 rfl ?_
    refine e_r_geti (k := 4) (pc' := 19) cl_11 rfl (Nat.le_of_ble_eq_true rfl) rfl rfl fl_RX11_106 dX11_skipWord_16 rfl ?_
    refine e_r_iconst (pc' := 20) dX11_skipWord_19 rfl (by decide) ?_
    refine e_r_iadd (pc' := 21) dX11_skipWord_20 rfl ?_
    refine e_r_puti (k := 4) (pc' := 24) cl_11 rfl (Nat.le_of_ble_eq_true rfl) rfl rfl fl_RX11_106 rfl (by decide +kernel) dX11_skipWord_21 rfl ?_
    refine e_r_goto (pc' := 0) dX11_skipWord_24 rfl ?_
    exact h
theorem wp_X11_takes_0 {X : e_X} {d gn : Nat} {o : e_O} (M : e_M) (p1 p2 p3 p4 p5 p6 : Int) (hmo : e_mn (557, gn, e_RF, M) o.2) (h : (∃ (r2 : Int) (N1 : e_M), e_E X d YX11_isWord [.inr (.inr 64), .inl p1, .inl p2, .inl p3, .inl p4, .inl p5, .inl p6] (557, gn, e_RF, M) (.inl (some (.inl r2)), (557, gn, e_RF, N1)) ∧ ((r2 = 0 → ((r2 = 0 ∨ r2 = 1) ∧ o = (.inl (some (.inl r2)), (557, gn, e_RF, N1)))) ∧ (¬ (r2 = 0) → (∃ N6 : e_M, e_E X d YX11_skipWord [.inr (.inr 64)] (557, gn, e_RF, N1) (.inl none, (557, gn, e_RF, N6)) ∧ ((r2 = 0 ∨ r2 = 1) ∧ o = (.inl (some (.inl r2)), (557, gn, e_RF, N6)))))))) : e_G X (d + 1) YX11_takes 0 [some (.inr (.inr 64)), some (.inl p1), some (.inl p2), some (.inl p3), some (.inl p4), some (.inl p5), some (.inl p6), none] [] (557, gn, e_RF, M) o := by
  refine e_r_aload_n (pc' := 1) (by decide) dX11_takes_0 rfl rfl rfl ?_
  refine e_r_iload_n (pc' := 2) dX11_takes_1 rfl rfl rfl ?_
  refine e_r_iload_n (pc' := 3) dX11_takes_2 rfl rfl rfl ?_
  refine e_r_iload_n (pc' := 4) dX11_takes_3 rfl rfl rfl ?_
  refine e_r_iload (pc' := 6) dX11_takes_4 rfl rfl ?_
  refine e_r_iload (pc' := 8) dX11_takes_6 rfl rfl ?_
  refine e_r_iload (pc' := 10) dX11_takes_8 rfl rfl ?_
  obtain ⟨r2, N1, he3, h⟩ := h
  refine e_r_callV (a := 64) (av := [.inl p1, .inl p2, .inl p3, .inl p4, .inl p5, .inl p6]) (st := []) mqYX11_isWord ml_RX11_146 cl_11 rfl (Nat.le_of_ble_eq_true rfl) (by simp [e_cat]) rfl rfl rfl dX11_takes_10 (pc' := 13) rfl he3 ⟨Nat.le_refl _, Nat.le_refl _⟩ hmo ?_
  refine e_r_istore (pc' := 15) (loc' := [some (.inr (.inr 64)), some (.inl p1), some (.inl p2), some (.inl p3), some (.inl p4), some (.inl p5), some (.inl p6), some (.inl r2)]) dX11_takes_13 rfl rfl rfl rfl ?_
  refine e_r_iload (pc' := 17) dX11_takes_15 rfl rfl ?_
  obtain ⟨ht4, hf5⟩ := h
  refine e_r_if_eq (tgt := 24) (pc' := 20) dX11_takes_17 rfl rfl (fun c => ?_) (fun c => ?_)
  · have h := ht4 c
    refine e_r_iload (pc' := 26) dX11_takes_24 rfl rfl ?_
    exact e_r_iret (ty := .boolean) rfl (e_nZ h.1) dX11_takes_26 h.2
  · have h := hf5 c
    refine e_r_aload_n (pc' := 21) (by decide) dX11_takes_20 rfl rfl rfl ?_
    obtain ⟨N6, he7, h⟩ := h
    refine e_r_callV (a := 64) (av := []) (st := []) mqYX11_skipWord ml_RX11_150 cl_11 rfl (Nat.le_of_ble_eq_true rfl) (by simp [e_cat]) rfl rfl rfl dX11_takes_21 (pc' := 24) rfl he7 ⟨Nat.le_refl _, Nat.le_refl _⟩ hmo ?_
    refine e_r_iload (pc' := 26) dX11_takes_24 rfl rfl ?_
    exact e_r_iret (ty := .boolean) rfl (e_nZ h.1) dX11_takes_26 h.2
theorem wp_X11_sign_0 {X : e_X} {d gn : Nat} {o : e_O} (M : e_M) (p1 : Int) (hmo : e_mn (557, gn, e_RF, M) o.2) (h : (((M 64 5) = 0 → (∃ N3 : e_M, e_E X d YX11_blanks [.inr (.inr 64)] (557, gn, e_RF, M) (.inl none, (557, gn, e_RF, N3)) ∧ (∃ (r6 : Int) (N5 : e_M), e_E X d YX11_byteAt [.inr (.inr 64), .inl (N3 64 4)] (557, gn, e_RF, N3) (.inl (some (.inl r6)), (557, gn, e_RF, N5)) ∧ ((¬ r6 = p1 → (∃ N10 : e_M, e_E X d YX11_wrong [.inr (.inr 64), .inl 1, .inl (N5 64 4)] (557, gn, e_RF, N5) (.inl none, (557, gn, e_RF, N10)) ∧ (o = (.inl none, (557, gn, e_RF, N10))))) ∧ (r6 = p1 → (o = (.inl none, (557, gn, e_RF, (e_up N5 64 4 (e_w ((N5 64 4) + 1))))))))))) ∧ (¬ ((M 64 5) = 0) → (o = (.inl none, (557, gn, e_RF, M)))))) : e_G X (d + 1) YX11_sign 0 [some (.inr (.inr 64)), some (.inl p1)] [] (557, gn, e_RF, M) o := by
  refine e_r_aload_n (pc' := 1) (by decide) dX11_sign_0 rfl rfl rfl ?_
  refine e_r_geti (k := 5) (pc' := 4) cl_11 rfl (Nat.le_of_ble_eq_true rfl) rfl rfl fl_RX11_113 dX11_sign_1 rfl ?_
  obtain ⟨ht1, hf2⟩ := h
  refine e_r_if_eq (tgt := 8) (pc' := 7) dX11_sign_4 rfl rfl (fun c => ?_) (fun c => ?_)
  · have h := ht1 c
    refine e_r_aload_n (pc' := 9) (by decide) dX11_sign_8 rfl rfl rfl ?_
    obtain ⟨N3, he4, h⟩ := h
    refine e_r_callV (a := 64) (av := []) (st := []) mqYX11_blanks ml_RX11_119 cl_11 rfl (Nat.le_of_ble_eq_true rfl) (by simp [e_cat]) rfl rfl rfl dX11_sign_9 (pc' := 12) rfl he4 ⟨Nat.le_refl _, Nat.le_refl _⟩ hmo ?_
    refine e_r_aload_n (pc' := 13) (by decide) dX11_sign_12 rfl rfl rfl ?_
    refine e_r_aload_n (pc' := 14) (by decide) dX11_sign_13 rfl rfl rfl ?_
    refine e_r_geti (k := 4) (pc' := 17) cl_11 rfl (Nat.le_of_ble_eq_true rfl) rfl rfl fl_RX11_106 dX11_sign_14 rfl ?_
    obtain ⟨r6, N5, he7, h⟩ := h
    refine e_r_callV (a := 64) (av := [.inl (N3 64 4)]) (st := []) mqYX11_byteAt ml_RX11_109 cl_11 rfl (Nat.le_of_ble_eq_true rfl) (by simp [e_cat]) rfl rfl rfl dX11_sign_17 (pc' := 20) rfl he7 ⟨Nat.le_refl _, Nat.le_refl _⟩ hmo ?_
    refine e_r_iload_n (pc' := 21) dX11_sign_20 rfl rfl rfl ?_
    obtain ⟨ht8, hf9⟩ := h
    refine e_r_icmp_ne (tgt := 37) (pc' := 24) dX11_sign_21 rfl rfl (fun c => ?_) (fun c => ?_)
    · have h := ht8 c
      refine e_r_aload_n (pc' := 38) (by decide) dX11_sign_37 rfl rfl rfl ?_
      refine e_r_iconst (pc' := 39) dX11_sign_38 rfl (by decide) ?_
      refine e_r_aload_n (pc' := 40) (by decide) dX11_sign_39 rfl rfl rfl ?_
      refine e_r_geti (k := 4) (pc' := 43) cl_11 rfl (Nat.le_of_ble_eq_true rfl) rfl rfl fl_RX11_106 dX11_sign_40 rfl ?_
      obtain ⟨N10, he11, h⟩ := h
      refine e_r_callV (a := 64) (av := [.inl 1, .inl (N5 64 4)]) (st := []) mqYX11_wrong ml_RX11_126 cl_11 rfl (Nat.le_of_ble_eq_true rfl) (by simp [e_cat]) rfl rfl rfl dX11_sign_43 (pc' := 46) rfl he11 ⟨Nat.le_refl _, Nat.le_refl _⟩ hmo ?_
      exact e_r_vret rfl dX11_sign_46 h
    · have h := hf9 c
      refine e_r_aload_n (pc' := 25) (by decide) dX11_sign_24 rfl rfl rfl ?_
      refine e_r_dup (pc' := 26) rfl dX11_sign_25 rfl ?_
      refine e_r_geti (k := 4) (pc' := 29) cl_11 rfl (Nat.le_of_ble_eq_true rfl) rfl rfl fl_RX11_106 dX11_sign_26 rfl ?_
      refine e_r_iconst (pc' := 30) dX11_sign_29 rfl (by decide) ?_
      refine e_r_iadd (pc' := 31) dX11_sign_30 rfl ?_
      refine e_r_puti (k := 4) (pc' := 34) cl_11 rfl (Nat.le_of_ble_eq_true rfl) rfl rfl fl_RX11_106 rfl (by decide +kernel) dX11_sign_31 rfl ?_
      refine e_r_goto (pc' := 46) dX11_sign_34 rfl ?_
      exact e_r_vret rfl dX11_sign_46 h
  · have h := hf2 c
    exact e_r_vret rfl dX11_sign_7 h
theorem wp_X11_takesSign_0 {X : e_X} {d gn : Nat} {o : e_O} (M : e_M) (p1 : Int) (hmo : e_mn (557, gn, e_RF, M) o.2) (h : (((M 64 5) = 0 → (∃ N3 : e_M, e_E X d YX11_blanks [.inr (.inr 64)] (557, gn, e_RF, M) (.inl none, (557, gn, e_RF, N3)) ∧ (∃ (r6 : Int) (N5 : e_M), e_E X d YX11_byteAt [.inr (.inr 64), .inl (N3 64 4)] (557, gn, e_RF, N3) (.inl (some (.inl r6)), (557, gn, e_RF, N5)) ∧ ((¬ r6 = p1 → e_G X (d + 1) YX11_takesSign 30 [some (.inr (.inr 64)), some (.inl p1), none] [.inl 0] (557, gn, e_RF, N5) o) ∧ (r6 = p1 → e_G X (d + 1) YX11_takesSign 30 [some (.inr (.inr 64)), some (.inl p1), none] [.inl 1] (557, gn, e_RF, N5) o))))) ∧ (¬ ((M 64 5) = 0) → (o = (.inl (some (.inl 0)), (557, gn, e_RF, M)))))) : e_G X (d + 1) YX11_takesSign 0 [some (.inr (.inr 64)), some (.inl p1), none] [] (557, gn, e_RF, M) o := by
  refine e_r_aload_n (pc' := 1) (by decide) dX11_takesSign_0 rfl rfl rfl ?_
  refine e_r_geti (k := 5) (pc' := 4) cl_11 rfl (Nat.le_of_ble_eq_true rfl) rfl rfl fl_RX11_113 dX11_takesSign_1 rfl ?_
  obtain ⟨ht1, hf2⟩ := h
  refine e_r_if_eq (tgt := 9) (pc' := 7) dX11_takesSign_4 rfl rfl (fun c => ?_) (fun c => ?_)
  · have h := ht1 c
    refine e_r_aload_n (pc' := 10) (by decide) dX11_takesSign_9 rfl rfl rfl ?_
    obtain ⟨N3, he4, h⟩ := h
    refine e_r_callV (a := 64) (av := []) (st := []) mqYX11_blanks ml_RX11_119 cl_11 rfl (Nat.le_of_ble_eq_true rfl) (by simp [e_cat]) rfl rfl rfl dX11_takesSign_10 (pc' := 13) rfl he4 ⟨Nat.le_refl _, Nat.le_refl _⟩ hmo ?_
    refine e_r_aload_n (pc' := 14) (by decide) dX11_takesSign_13 rfl rfl rfl ?_
    refine e_r_aload_n (pc' := 15) (by decide) dX11_takesSign_14 rfl rfl rfl ?_
    refine e_r_geti (k := 4) (pc' := 18) cl_11 rfl (Nat.le_of_ble_eq_true rfl) rfl rfl fl_RX11_106 dX11_takesSign_15 rfl ?_
    obtain ⟨r6, N5, he7, h⟩ := h
    refine e_r_callV (a := 64) (av := [.inl (N3 64 4)]) (st := []) mqYX11_byteAt ml_RX11_109 cl_11 rfl (Nat.le_of_ble_eq_true rfl) (by simp [e_cat]) rfl rfl rfl dX11_takesSign_18 (pc' := 21) rfl he7 ⟨Nat.le_refl _, Nat.le_refl _⟩ hmo ?_
    refine e_r_iload_n (pc' := 22) dX11_takesSign_21 rfl rfl rfl ?_
    obtain ⟨ht8, hf9⟩ := h
    refine e_r_icmp_ne (tgt := 29) (pc' := 25) dX11_takesSign_22 rfl rfl (fun c => ?_) (fun c => ?_)
    · have h := ht8 c
      refine e_r_iconst (pc' := 30) dX11_takesSign_29 rfl (by decide) ?_
      exact h
    · have h := hf9 c
      refine e_r_iconst (pc' := 26) dX11_takesSign_25 rfl (by decide) ?_
      refine e_r_goto (pc' := 30) dX11_takesSign_26 rfl ?_
      exact h
  · have h := hf2 c
    refine e_r_iconst (pc' := 8) dX11_takesSign_7 rfl (by decide) ?_
    exact e_r_iret (ty := .boolean) rfl (e_nZ (by decide)) dX11_takesSign_8 h
theorem wp_X11_takesSign_30 {X : e_X} {d gn : Nat} {o : e_O} (M : e_M) (p1 w0 : Int) (h : ((w0 = 0 → ((w0 = 0 ∨ w0 = 1) ∧ o = (.inl (some (.inl w0)), (557, gn, e_RF, M)))) ∧ (¬ (w0 = 0) → ((w0 = 0 ∨ w0 = 1) ∧ o = (.inl (some (.inl w0)), (557, gn, e_RF, (e_up M 64 4 (e_w ((M 64 4) + 1))))))))) : e_G X (d + 1) YX11_takesSign 30 [some (.inr (.inr 64)), some (.inl p1), none] [.inl w0] (557, gn, e_RF, M) o := by
  refine e_r_istore_n (pc' := 31) (loc' := [some (.inr (.inr 64)), some (.inl p1), some (.inl w0)]) dX11_takesSign_30 rfl rfl rfl rfl rfl ?_
  refine e_r_iload_n (pc' := 32) dX11_takesSign_31 rfl rfl rfl ?_
  obtain ⟨ht1, hf2⟩ := h
  refine e_r_if_eq (tgt := 45) (pc' := 35) dX11_takesSign_32 rfl rfl (fun c => ?_) (fun c => ?_)
  · have h := ht1 c
    refine e_r_iload_n (pc' := 46) dX11_takesSign_45 rfl rfl rfl ?_
    exact e_r_iret (ty := .boolean) rfl (e_nZ h.1) dX11_takesSign_46 h.2
  · have h := hf2 c
    refine e_r_aload_n (pc' := 36) (by decide) dX11_takesSign_35 rfl rfl rfl ?_
    refine e_r_dup (pc' := 37) rfl dX11_takesSign_36 rfl ?_
    refine e_r_geti (k := 4) (pc' := 40) cl_11 rfl (Nat.le_of_ble_eq_true rfl) rfl rfl fl_RX11_106 dX11_takesSign_37 rfl ?_
    refine e_r_iconst (pc' := 41) dX11_takesSign_40 rfl (by decide) ?_
    refine e_r_iadd (pc' := 42) dX11_takesSign_41 rfl ?_
    refine e_r_puti (k := 4) (pc' := 45) cl_11 rfl (Nat.le_of_ble_eq_true rfl) rfl rfl fl_RX11_106 rfl (by decide +kernel) dX11_takesSign_42 rfl ?_
    refine e_r_iload_n (pc' := 46) dX11_takesSign_45 rfl rfl rfl ?_
    exact e_r_iret (ty := .boolean) rfl (e_nZ h.1) dX11_takesSign_46 h.2
theorem wp_X11_starts_0 {X : e_X} {d gn : Nat} {o : e_O} (M : e_M) (p1 : Int) (hmo : e_mn (557, gn, e_RF, M) o.2) (h : (∃ N1 : e_M, e_E X d YX11_blanks [.inr (.inr 64)] (557, gn, e_RF, (e_up (e_up (e_up (e_up (e_up (e_up (e_up M 64 1 0) 64 2 p1) 64 4 0) 64 5 0) 64 6 (-1)) 64 7 0) 64 8 0)) (.inl none, (557, gn, e_RF, N1)) ∧ (o = (.inl none, (557, gn, e_RF, N1))))) : e_G X (d + 1) YX11_starts 0 [some (.inr (.inr 64)), some (.inl p1)] [] (557, gn, e_RF, M) o := by
  refine e_r_aload_n (pc' := 1) (by decide) dX11_starts_0 rfl rfl rfl ?_
  refine e_r_iconst (pc' := 2) dX11_starts_1 rfl (by decide) ?_
  refine e_r_puti (k := 1) (pc' := 5) cl_11 rfl (Nat.le_of_ble_eq_true rfl) rfl rfl fl_RX11_100 rfl (by decide +kernel) dX11_starts_2 rfl ?_
  refine e_r_aload_n (pc' := 6) (by decide) dX11_starts_5 rfl rfl rfl ?_
  refine e_r_iload_n (pc' := 7) dX11_starts_6 rfl rfl rfl ?_
  refine e_r_puti (k := 2) (pc' := 10) cl_11 rfl (Nat.le_of_ble_eq_true rfl) rfl rfl fl_RX11_103 rfl (by decide +kernel) dX11_starts_7 rfl ?_
  refine e_r_aload_n (pc' := 11) (by decide) dX11_starts_10 rfl rfl rfl ?_
  refine e_r_iconst (pc' := 12) dX11_starts_11 rfl (by decide) ?_
  refine e_r_puti (k := 4) (pc' := 15) cl_11 rfl (Nat.le_of_ble_eq_true rfl) rfl rfl fl_RX11_106 rfl (by decide +kernel) dX11_starts_12 rfl ?_
  refine e_r_aload_n (pc' := 16) (by decide) dX11_starts_15 rfl rfl rfl ?_
  refine e_r_iconst (pc' := 17) dX11_starts_16 rfl (by decide) ?_
  refine e_r_puti (k := 5) (pc' := 20) cl_11 rfl (Nat.le_of_ble_eq_true rfl) rfl rfl fl_RX11_113 rfl (by decide +kernel) dX11_starts_17 rfl ?_
  refine e_r_aload_n (pc' := 21) (by decide) dX11_starts_20 rfl rfl rfl ?_
  refine e_r_iconst (pc' := 22) dX11_starts_21 rfl (by decide) ?_
  refine e_r_puti (k := 6) (pc' := 25) cl_11 rfl (Nat.le_of_ble_eq_true rfl) rfl rfl fl_RX11_116 rfl (by decide +kernel) dX11_starts_22 rfl ?_
  refine e_r_aload_n (pc' := 26) (by decide) dX11_starts_25 rfl rfl rfl ?_
  refine e_r_iconst (pc' := 27) dX11_starts_26 rfl (by decide) ?_
  refine e_r_puti (k := 7) (pc' := 30) cl_11 rfl (Nat.le_of_ble_eq_true rfl) rfl rfl fl_RX11_153 rfl (by decide +kernel) dX11_starts_27 rfl ?_
  refine e_r_aload_n (pc' := 31) (by decide) dX11_starts_30 rfl rfl rfl ?_
  refine e_r_iconst (pc' := 32) dX11_starts_31 rfl (by decide) ?_
  refine e_r_puti (k := 8) (pc' := 35) cl_11 rfl (Nat.le_of_ble_eq_true rfl) rfl rfl fl_RX11_156 rfl (by decide +kernel) dX11_starts_32 rfl ?_
  refine e_r_aload_n (pc' := 36) (by decide) dX11_starts_35 rfl rfl rfl ?_
  obtain ⟨N1, he2, h⟩ := h
  refine e_r_callV (a := 64) (av := []) (st := []) mqYX11_blanks ml_RX11_119 cl_11 rfl (Nat.le_of_ble_eq_true rfl) (by simp [e_cat]) rfl rfl rfl dX11_starts_36 (pc' := 39) rfl he2 ⟨Nat.le_refl _, Nat.le_refl _⟩ hmo ?_
  exact e_r_vret rfl dX11_starts_39 h
theorem wp_X11_ends_0 {X : e_X} {d gn : Nat} {o : e_O} (M : e_M) (h : (o = (.inl (some (.inl (e_w (((e_up M 64 3 (M 64 6)) 64 5) - 10)))), (557, gn, e_RF, (e_up M 64 3 (M 64 6)))))) : e_G X d YX11_ends 0 [some (.inr (.inr 64))] [] (557, gn, e_RF, M) o := by
  refine e_r_aload_n (pc' := 1) (by decide) dX11_ends_0 rfl rfl rfl ?_
  refine e_r_aload_n (pc' := 2) (by decide) dX11_ends_1 rfl rfl rfl ?_
  refine e_r_geti (k := 6) (pc' := 5) cl_11 rfl (Nat.le_of_ble_eq_true rfl) rfl rfl fl_RX11_116 dX11_ends_2 rfl ?_
  refine e_r_puti (k := 3) (pc' := 8) cl_11 rfl (Nat.le_of_ble_eq_true rfl) rfl rfl fl_RX11_9 rfl (by decide +kernel) dX11_ends_5 rfl ?_
  refine e_r_aload_n (pc' := 9) (by decide) dX11_ends_8 rfl rfl rfl ?_
  refine e_r_geti (k := 5) (pc' := 12) cl_11 rfl (Nat.le_of_ble_eq_true rfl) rfl rfl fl_RX11_113 dX11_ends_9 rfl ?_
  refine e_r_bipush (pc' := 14) dX11_ends_12 rfl (by decide) ?_
  refine e_r_isub (pc' := 15) dX11_ends_14 rfl ?_
  exact e_r_iret (ty := .int) rfl (e_nI _) dX11_ends_15 h
theorem wp_X11_isSeven_0 {X : e_X} {d gn : Nat} {o : e_O} (M : e_M) (p1 p2 : Int) (hmo : e_mn (557, gn, e_RF, M) o.2) (h : (((M 64 5) = 0 → (∃ N3 : e_M, e_E X d YX11_blanks [.inr (.inr 64)] (557, gn, e_RF, M) (.inl none, (557, gn, e_RF, N3)) ∧ e_G X (d + 1) YX11_isSeven 18 [some (.inr (.inr 64)), some (.inl p1), some (.inl p2), some (.inl 0), some (.inl 0), none] [] (557, gn, e_RF, N3) o)) ∧ (¬ ((M 64 5) = 0) → (o = (.inl (some (.inl 0)), (557, gn, e_RF, M)))))) : e_G X (d + 1) YX11_isSeven 0 [some (.inr (.inr 64)), some (.inl p1), some (.inl p2), none, none, none] [] (557, gn, e_RF, M) o := by
  refine e_r_aload_n (pc' := 1) (by decide) dX11_isSeven_0 rfl rfl rfl ?_
  refine e_r_geti (k := 5) (pc' := 4) cl_11 rfl (Nat.le_of_ble_eq_true rfl) rfl rfl fl_RX11_113 dX11_isSeven_1 rfl ?_
  obtain ⟨ht1, hf2⟩ := h
  refine e_r_if_eq (tgt := 9) (pc' := 7) dX11_isSeven_4 rfl rfl (fun c => ?_) (fun c => ?_)
  · have h := ht1 c
    refine e_r_aload_n (pc' := 10) (by decide) dX11_isSeven_9 rfl rfl rfl ?_
    obtain ⟨N3, he4, h⟩ := h
    refine e_r_callV (a := 64) (av := []) (st := []) mqYX11_blanks ml_RX11_119 cl_11 rfl (Nat.le_of_ble_eq_true rfl) (by simp [e_cat]) rfl rfl rfl dX11_isSeven_10 (pc' := 13) rfl he4 ⟨Nat.le_refl _, Nat.le_refl _⟩ hmo ?_
    refine e_r_iconst (pc' := 14) dX11_isSeven_13 rfl (by decide) ?_
    refine e_r_istore_n (pc' := 15) (loc' := [some (.inr (.inr 64)), some (.inl p1), some (.inl p2), some (.inl 0), none, none]) dX11_isSeven_14 rfl rfl rfl rfl rfl ?_
    refine e_r_iconst (pc' := 16) dX11_isSeven_15 rfl (by decide) ?_
    refine e_r_istore (pc' := 18) (loc' := [some (.inr (.inr 64)), some (.inl p1), some (.inl p2), some (.inl 0), some (.inl 0), none]) dX11_isSeven_16 rfl rfl rfl rfl ?_
    exact h
  · have h := hf2 c
    refine e_r_iconst (pc' := 8) dX11_isSeven_7 rfl (by decide) ?_
    exact e_r_iret (ty := .boolean) rfl (e_nZ (by decide)) dX11_isSeven_8 h
theorem wp_X11_isSeven_18 {X : e_X} {d gn : Nat} {o : e_O} (M : e_M) (p1 p2 v3 v4 : Int) (hmo : e_mn (557, gn, e_RF, M) o.2) (h : (∃ (r2 : Int) (N1 : e_M), e_E X d YX11_byteAt [.inr (.inr 64), .inl (e_w ((M 64 4) + v4))] (557, gn, e_RF, M) (.inl (some (.inl r2)), (557, gn, e_RF, N1)) ∧ (∃ (r5 : Int) (N4 : e_M), e_E X d YX11_isSmall [.inl r2] (557, gn, e_RF, N1) (.inl (some (.inl r5)), (557, gn, e_RF, N4)) ∧ ((r5 = 0 → ((¬ v4 = 7 → e_G X (d + 1) YX11_isSeven 105 [some (.inr (.inr 64)), some (.inl p1), some (.inl p2), some (.inl v3), some (.inl v4), none] [] (557, gn, e_RF, N4) o) ∧ (v4 = 7 → ((¬ v3 = p1 → e_G X (d + 1) YX11_isSeven 105 [some (.inr (.inr 64)), some (.inl p1), some (.inl p2), some (.inl v3), some (.inl v4), none] [] (557, gn, e_RF, N4) o) ∧ (v3 = p1 → (∃ (r14 : Int) (N13 : e_M), e_E X d YX11_byteAt [.inr (.inr 64), .inl (e_w ((N4 64 4) + 6))] (557, gn, e_RF, N4) (.inl (some (.inl r14)), (557, gn, e_RF, N13)) ∧ ((¬ r14 = p2 → e_G X (d + 1) YX11_isSeven 105 [some (.inr (.inr 64)), some (.inl p1), some (.inl p2), some (.inl v3), some (.inl v4), none] [] (557, gn, e_RF, N13) o) ∧ (r14 = p2 → e_G X (d + 1) YX11_isSeven 106 [some (.inr (.inr 64)), some (.inl p1), some (.inl p2), some (.inl v3), some (.inl v4), none] [.inl 1] (557, gn, e_RF, N13) o)))))))) ∧ (¬ (r5 = 0) → ((6 ≤ v4 → e_G X (d + 1) YX11_isSeven 18 [some (.inr (.inr 64)), some (.inl p1), some (.inl p2), some (.inl v3), some (.inl (e_w (v4 + 1))), none] [] (557, gn, e_RF, N4) o) ∧ (¬ (6 ≤ v4) → (∃ (r21 : Int) (N20 : e_M), e_E X d YX11_byteAt [.inr (.inr 64), .inl (e_w ((N4 64 4) + v4))] (557, gn, e_RF, N4) (.inl (some (.inl r21)), (557, gn, e_RF, N20)) ∧ e_G X (d + 1) YX11_isSeven 18 [some (.inr (.inr 64)), some (.inl p1), some (.inl p2), some (.inl (e_w ((e_w ((e_w ((e_w (27 * v3)) + r21)) - 97)) + 1))), some (.inl (e_w (v4 + 1))), none] [] (557, gn, e_RF, N20) o)))))))) : e_G X (d + 1) YX11_isSeven 18 [some (.inr (.inr 64)), some (.inl p1), some (.inl p2), some (.inl v3), some (.inl v4), none] [] (557, gn, e_RF, M) o := by
  refine e_r_aload_n (pc' := 19) (by decide) dX11_isSeven_18 rfl rfl rfl ?_
  refine e_r_aload_n (pc' := 20) (by decide) dX11_isSeven_19 rfl rfl rfl ?_
  refine e_r_geti (k := 4) (pc' := 23) cl_11 rfl (Nat.le_of_ble_eq_true rfl) rfl rfl fl_RX11_106 dX11_isSeven_20 rfl ?_
  refine e_r_iload (pc' := 25) dX11_isSeven_23 rfl rfl ?_
  refine e_r_iadd (pc' := 26) dX11_isSeven_25 rfl ?_
  obtain ⟨r2, N1, he3, h⟩ := h
  refine e_r_callV (a := 64) (av := [.inl (e_w ((M 64 4) + v4))]) (st := []) mqYX11_byteAt ml_RX11_109 cl_11 rfl (Nat.le_of_ble_eq_true rfl) (by simp [e_cat]) rfl rfl rfl dX11_isSeven_26 (pc' := 29) rfl he3 ⟨Nat.le_refl _, Nat.le_refl _⟩ hmo ?_
  obtain ⟨r5, N4, he6, h⟩ := h
  refine e_r_callS (av := [.inl r2]) (st := []) mqYX11_isSmall ml_RX11_135 (by simp [e_cat]) rfl rfl rfl dX11_isSeven_29 (pc' := 32) rfl he6 ⟨Nat.le_refl _, Nat.le_refl _⟩ hmo ?_
  obtain ⟨ht7, hf8⟩ := h
  refine e_r_if_eq (tgt := 74) (pc' := 35) dX11_isSeven_32 rfl rfl (fun c => ?_) (fun c => ?_)
  · have h := ht7 c
    refine e_r_iload (pc' := 76) dX11_isSeven_74 rfl rfl ?_
    refine e_r_bipush (pc' := 78) dX11_isSeven_76 rfl (by decide) ?_
    obtain ⟨ht9, hf10⟩ := h
    refine e_r_icmp_ne (tgt := 105) (pc' := 81) dX11_isSeven_78 rfl rfl (fun c => ?_) (fun c => ?_)
    · have h := ht9 c
      exact h
    · have h := hf10 c
      refine e_r_iload_n (pc' := 82) dX11_isSeven_81 rfl rfl rfl ?_
      refine e_r_iload_n (pc' := 83) dX11_isSeven_82 rfl rfl rfl ?_
      obtain ⟨ht11, hf12⟩ := h
      refine e_r_icmp_ne (tgt := 105) (pc' := 86) dX11_isSeven_83 rfl rfl (fun c => ?_) (fun c => ?_)
      · have h := ht11 c
        exact h
      · have h := hf12 c
        refine e_r_aload_n (pc' := 87) (by decide) dX11_isSeven_86 rfl rfl rfl ?_
        refine e_r_aload_n (pc' := 88) (by decide) dX11_isSeven_87 rfl rfl rfl ?_
        refine e_r_geti (k := 4) (pc' := 91) cl_11 rfl (Nat.le_of_ble_eq_true rfl) rfl rfl fl_RX11_106 dX11_isSeven_88 rfl ?_
        refine e_r_bipush (pc' := 93) dX11_isSeven_91 rfl (by decide) ?_
        refine e_r_iadd (pc' := 94) dX11_isSeven_93 rfl ?_
        obtain ⟨r14, N13, he15, h⟩ := h
        refine e_r_callV (a := 64) (av := [.inl (e_w ((N4 64 4) + 6))]) (st := []) mqYX11_byteAt ml_RX11_109 cl_11 rfl (Nat.le_of_ble_eq_true rfl) (by simp [e_cat]) rfl rfl rfl dX11_isSeven_94 (pc' := 97) rfl he15 ⟨Nat.le_refl _, Nat.le_refl _⟩ hmo ?_
        refine e_r_iload_n (pc' := 98) dX11_isSeven_97 rfl rfl rfl ?_
        obtain ⟨ht16, hf17⟩ := h
        refine e_r_icmp_ne (tgt := 105) (pc' := 101) dX11_isSeven_98 rfl rfl (fun c => ?_) (fun c => ?_)
        · have h := ht16 c
          exact h
        · have h := hf17 c
          refine e_r_iconst (pc' := 102) dX11_isSeven_101 rfl (by decide) ?_
          refine e_r_goto (pc' := 106) dX11_isSeven_102 rfl ?_
          exact h
  · have h := hf8 c
    refine e_r_iload (pc' := 37) dX11_isSeven_35 rfl rfl ?_
    refine e_r_bipush (pc' := 39) dX11_isSeven_37 rfl (by decide) ?_
    obtain ⟨ht18, hf19⟩ := h
    refine e_r_icmp_ge (tgt := 66) (pc' := 42) dX11_isSeven_39 rfl rfl (fun c => ?_) (fun c => ?_)
    · have h := ht18 c
      refine e_r_iload_n (pc' := 67) dX11_isSeven_66 rfl rfl rfl ?_
      refine e_r_istore_n (pc' := 68) (loc' := [some (.inr (.inr 64)), some (.inl p1), some (.inl p2), some (.inl v3), some (.inl v4), none]) dX11_isSeven_67 rfl rfl rfl rfl rfl ?_
      refine e_r_iinc (pc' := 71) (loc' := [some (.inr (.inr 64)), some (.inl p1), some (.inl p2), some (.inl v3), some (.inl (e_w (v4 + 1))), none]) dX11_isSeven_68 rfl rfl rfl rfl rfl ?_
      refine e_r_goto (pc' := 18) dX11_isSeven_71 rfl ?_
      exact h
    · have h := hf19 c
      refine e_r_bipush (pc' := 44) dX11_isSeven_42 rfl (by decide) ?_
      refine e_r_iload_n (pc' := 45) dX11_isSeven_44 rfl rfl rfl ?_
      refine e_r_imul (pc' := 46) dX11_isSeven_45 rfl ?_
      refine e_r_aload_n (pc' := 47) (by decide) dX11_isSeven_46 rfl rfl rfl ?_
      refine e_r_aload_n (pc' := 48) (by decide) dX11_isSeven_47 rfl rfl rfl ?_
      refine e_r_geti (k := 4) (pc' := 51) cl_11 rfl (Nat.le_of_ble_eq_true rfl) rfl rfl fl_RX11_106 dX11_isSeven_48 rfl ?_
      refine e_r_iload (pc' := 53) dX11_isSeven_51 rfl rfl ?_
      refine e_r_iadd (pc' := 54) dX11_isSeven_53 rfl ?_
      obtain ⟨r21, N20, he22, h⟩ := h
      refine e_r_callV (a := 64) (av := [.inl (e_w ((N4 64 4) + v4))]) (st := [.inl (e_w (27 * v3))]) mqYX11_byteAt ml_RX11_109 cl_11 rfl (Nat.le_of_ble_eq_true rfl) (by simp [e_cat]) rfl rfl rfl dX11_isSeven_54 (pc' := 57) rfl he22 ⟨Nat.le_refl _, Nat.le_refl _⟩ hmo ?_
      refine e_r_iadd (pc' := 58) dX11_isSeven_57 rfl ?_
      refine e_r_bipush (pc' := 60) dX11_isSeven_58 rfl (by decide) ?_
      refine e_r_isub (pc' := 61) dX11_isSeven_60 rfl ?_
      refine e_r_iconst (pc' := 62) dX11_isSeven_61 rfl (by decide) ?_
      refine e_r_iadd (pc' := 63) dX11_isSeven_62 rfl ?_
      refine e_r_goto (pc' := 67) dX11_isSeven_63 rfl ?_
      refine e_r_istore_n (pc' := 68) (loc' := [some (.inr (.inr 64)), some (.inl p1), some (.inl p2), some (.inl (e_w ((e_w ((e_w ((e_w (27 * v3)) + r21)) - 97)) + 1))), some (.inl v4), none]) dX11_isSeven_67 rfl rfl rfl rfl rfl ?_
      refine e_r_iinc (pc' := 71) (loc' := [some (.inr (.inr 64)), some (.inl p1), some (.inl p2), some (.inl (e_w ((e_w ((e_w ((e_w (27 * v3)) + r21)) - 97)) + 1))), some (.inl (e_w (v4 + 1))), none]) dX11_isSeven_68 rfl rfl rfl rfl rfl ?_
      refine e_r_goto (pc' := 18) dX11_isSeven_71 rfl ?_
      exact h
theorem wp_X11_isSeven_106 {X : e_X} {d gn : Nat} {o : e_O} (M : e_M) (p1 p2 v3 v4 w0 : Int) (hmo : e_mn (557, gn, e_RF, M) o.2) (h : ((w0 = 0 → ((w0 = 0 ∨ w0 = 1) ∧ o = (.inl (some (.inl w0)), (557, gn, e_RF, M)))) ∧ (¬ (w0 = 0) → (∃ N3 : e_M, e_E X d YX11_skipWord [.inr (.inr 64)] (557, gn, e_RF, M) (.inl none, (557, gn, e_RF, N3)) ∧ ((w0 = 0 ∨ w0 = 1) ∧ o = (.inl (some (.inl w0)), (557, gn, e_RF, N3))))))) : e_G X (d + 1) YX11_isSeven 106 [some (.inr (.inr 64)), some (.inl p1), some (.inl p2), some (.inl v3), some (.inl v4), none] [.inl w0] (557, gn, e_RF, M) o := by
  refine e_r_istore (pc' := 108) (loc' := [some (.inr (.inr 64)), some (.inl p1), some (.inl p2), some (.inl v3), some (.inl v4), some (.inl w0)]) dX11_isSeven_106 rfl rfl rfl rfl ?_
  refine e_r_iload (pc' := 110) dX11_isSeven_108 rfl rfl ?_
  obtain ⟨ht1, hf2⟩ := h
  refine e_r_if_eq (tgt := 117) (pc' := 113) dX11_isSeven_110 rfl rfl (fun c => ?_) (fun c => ?_)
  · have h := ht1 c
    refine e_r_iload (pc' := 119) dX11_isSeven_117 rfl rfl ?_
    exact e_r_iret (ty := .boolean) rfl (e_nZ h.1) dX11_isSeven_119 h.2
  · have h := hf2 c
    refine e_r_aload_n (pc' := 114) (by decide) dX11_isSeven_113 rfl rfl rfl ?_
    obtain ⟨N3, he4, h⟩ := h
    refine e_r_callV (a := 64) (av := []) (st := []) mqYX11_skipWord ml_RX11_150 cl_11 rfl (Nat.le_of_ble_eq_true rfl) (by simp [e_cat]) rfl rfl rfl dX11_isSeven_114 (pc' := 117) rfl he4 ⟨Nat.le_refl _, Nat.le_refl _⟩ hmo ?_
    refine e_r_iload (pc' := 119) dX11_isSeven_117 rfl rfl ?_
    exact e_r_iret (ty := .boolean) rfl (e_nZ h.1) dX11_isSeven_119 h.2
theorem wp_X11_isSeven_105 {X : e_X} {d gn : Nat} {o : e_O} (M : e_M) (p1 p2 v3 v4 : Int) (h : e_G X (d + 1) YX11_isSeven 106 [some (.inr (.inr 64)), some (.inl p1), some (.inl p2), some (.inl v3), some (.inl v4), none] [.inl 0] (557, gn, e_RF, M) o) : e_G X (d + 1) YX11_isSeven 105 [some (.inr (.inr 64)), some (.inl p1), some (.inl p2), some (.inl v3), some (.inl v4), none] [] (557, gn, e_RF, M) o := by
  refine e_r_iconst (pc' := 106) dX11_isSeven_105 rfl (by decide) ?_
  exact h
theorem wp_X11_kindHere_0 {X : e_X} {d gn : Nat} {o : e_O} (M : e_M) (hmo : e_mn (557, gn, e_RF, M) o.2) (h : (∃ (r2 : Int) (N1 : e_M), e_E X d YX11_isWord [.inr (.inr 64), .inl 16, .inl 5, .inl 18, .inl 19, .inl 15, .inl 14] (557, gn, e_RF, M) (.inl (some (.inl r2)), (557, gn, e_RF, N1)) ∧ ((r2 = 0 → (∃ (r7 : Int) (N6 : e_M), e_E X d YX11_isWord [.inr (.inr 64), .inl 4, .inl 21, .inl 20, .inl 25, .inl 0, .inl 0] (557, gn, e_RF, N1) (.inl (some (.inl r7)), (557, gn, e_RF, N6)) ∧ ((r7 = 0 → (∃ (r12 : Int) (N11 : e_M), e_E X d YX11_isWord [.inr (.inr 64), .inl 20, .inl 1, .inl 19, .inl 11, .inl 0, .inl 0] (557, gn, e_RF, N6) (.inl (some (.inl r12)), (557, gn, e_RF, N11)) ∧ ((r12 = 0 → (∃ (r17 : Int) (N16 : e_M), e_E X d YX11_isWord [.inr (.inr 64), .inl 3, .inl 1, .inl 14, .inl 0, .inl 0, .inl 0] (557, gn, e_RF, N11) (.inl (some (.inl r17)), (557, gn, e_RF, N16)) ∧ ((r17 = 0 → (o = (.inl (some (.inl (-1))), (557, gn, e_RF, N16)))) ∧ (¬ (r17 = 0) → (o = (.inl (some (.inl 3)), (557, gn, e_RF, N16))))))) ∧ (¬ (r12 = 0) → (o = (.inl (some (.inl 2)), (557, gn, e_RF, N11))))))) ∧ (¬ (r7 = 0) → (o = (.inl (some (.inl 1)), (557, gn, e_RF, N6))))))) ∧ (¬ (r2 = 0) → (o = (.inl (some (.inl 0)), (557, gn, e_RF, N1))))))) : e_G X (d + 1) YX11_kindHere 0 [some (.inr (.inr 64))] [] (557, gn, e_RF, M) o := by
  refine e_r_aload_n (pc' := 1) (by decide) dX11_kindHere_0 rfl rfl rfl ?_
  refine e_r_bipush (pc' := 3) dX11_kindHere_1 rfl (by decide) ?_
  refine e_r_iconst (pc' := 4) dX11_kindHere_3 rfl (by decide) ?_
  refine e_r_bipush (pc' := 6) dX11_kindHere_4 rfl (by decide) ?_
  refine e_r_bipush (pc' := 8) dX11_kindHere_6 rfl (by decide) ?_
  refine e_r_bipush (pc' := 10) dX11_kindHere_8 rfl (by decide) ?_
  refine e_r_bipush (pc' := 12) dX11_kindHere_10 rfl (by decide) ?_
  obtain ⟨r2, N1, he3, h⟩ := h
  refine e_r_callV (a := 64) (av := [.inl 16, .inl 5, .inl 18, .inl 19, .inl 15, .inl 14]) (st := []) mqYX11_isWord ml_RX11_146 cl_11 rfl (Nat.le_of_ble_eq_true rfl) (by simp [e_cat]) rfl rfl rfl dX11_kindHere_12 (pc' := 15) rfl he3 ⟨Nat.le_refl _, Nat.le_refl _⟩ hmo ?_
  obtain ⟨ht4, hf5⟩ := h
  refine e_r_if_eq (tgt := 20) (pc' := 18) dX11_kindHere_15 rfl rfl (fun c => ?_) (fun c => ?_)
  · have h := ht4 c
    refine e_r_aload_n (pc' := 21) (by decide) dX11_kindHere_20 rfl rfl rfl ?_
    refine e_r_iconst (pc' := 22) dX11_kindHere_21 rfl (by decide) ?_
    refine e_r_bipush (pc' := 24) dX11_kindHere_22 rfl (by decide) ?_
    refine e_r_bipush (pc' := 26) dX11_kindHere_24 rfl (by decide) ?_
    refine e_r_bipush (pc' := 28) dX11_kindHere_26 rfl (by decide) ?_
    refine e_r_iconst (pc' := 29) dX11_kindHere_28 rfl (by decide) ?_
    refine e_r_iconst (pc' := 30) dX11_kindHere_29 rfl (by decide) ?_
    obtain ⟨r7, N6, he8, h⟩ := h
    refine e_r_callV (a := 64) (av := [.inl 4, .inl 21, .inl 20, .inl 25, .inl 0, .inl 0]) (st := []) mqYX11_isWord ml_RX11_146 cl_11 rfl (Nat.le_of_ble_eq_true rfl) (by simp [e_cat]) rfl rfl rfl dX11_kindHere_30 (pc' := 33) rfl he8 ⟨Nat.le_refl _, Nat.le_refl _⟩ hmo ?_
    obtain ⟨ht9, hf10⟩ := h
    refine e_r_if_eq (tgt := 38) (pc' := 36) dX11_kindHere_33 rfl rfl (fun c => ?_) (fun c => ?_)
    · have h := ht9 c
      refine e_r_aload_n (pc' := 39) (by decide) dX11_kindHere_38 rfl rfl rfl ?_
      refine e_r_bipush (pc' := 41) dX11_kindHere_39 rfl (by decide) ?_
      refine e_r_iconst (pc' := 42) dX11_kindHere_41 rfl (by decide) ?_
      refine e_r_bipush (pc' := 44) dX11_kindHere_42 rfl (by decide) ?_
      refine e_r_bipush (pc' := 46) dX11_kindHere_44 rfl (by decide) ?_
      refine e_r_iconst (pc' := 47) dX11_kindHere_46 rfl (by decide) ?_
      refine e_r_iconst (pc' := 48) dX11_kindHere_47 rfl (by decide) ?_
      obtain ⟨r12, N11, he13, h⟩ := h
      refine e_r_callV (a := 64) (av := [.inl 20, .inl 1, .inl 19, .inl 11, .inl 0, .inl 0]) (st := []) mqYX11_isWord ml_RX11_146 cl_11 rfl (Nat.le_of_ble_eq_true rfl) (by simp [e_cat]) rfl rfl rfl dX11_kindHere_48 (pc' := 51) rfl he13 ⟨Nat.le_refl _, Nat.le_refl _⟩ hmo ?_
      obtain ⟨ht14, hf15⟩ := h
      refine e_r_if_eq (tgt := 56) (pc' := 54) dX11_kindHere_51 rfl rfl (fun c => ?_) (fun c => ?_)
      · have h := ht14 c
        refine e_r_aload_n (pc' := 57) (by decide) dX11_kindHere_56 rfl rfl rfl ?_
        refine e_r_iconst (pc' := 58) dX11_kindHere_57 rfl (by decide) ?_
        refine e_r_iconst (pc' := 59) dX11_kindHere_58 rfl (by decide) ?_
        refine e_r_bipush (pc' := 61) dX11_kindHere_59 rfl (by decide) ?_
        refine e_r_iconst (pc' := 62) dX11_kindHere_61 rfl (by decide) ?_
        refine e_r_iconst (pc' := 63) dX11_kindHere_62 rfl (by decide) ?_
        refine e_r_iconst (pc' := 64) dX11_kindHere_63 rfl (by decide) ?_
        obtain ⟨r17, N16, he18, h⟩ := h
        refine e_r_callV (a := 64) (av := [.inl 3, .inl 1, .inl 14, .inl 0, .inl 0, .inl 0]) (st := []) mqYX11_isWord ml_RX11_146 cl_11 rfl (Nat.le_of_ble_eq_true rfl) (by simp [e_cat]) rfl rfl rfl dX11_kindHere_64 (pc' := 67) rfl he18 ⟨Nat.le_refl _, Nat.le_refl _⟩ hmo ?_
        obtain ⟨ht19, hf20⟩ := h
        refine e_r_if_eq (tgt := 74) (pc' := 70) dX11_kindHere_67 rfl rfl (fun c => ?_) (fun c => ?_)
        · have h := ht19 c
          refine e_r_iconst (pc' := 75) dX11_kindHere_74 rfl (by decide) ?_
          exact e_r_iret (ty := .int) rfl (e_nI _) dX11_kindHere_75 h
        · have h := hf20 c
          refine e_r_iconst (pc' := 71) dX11_kindHere_70 rfl (by decide) ?_
          refine e_r_goto (pc' := 75) dX11_kindHere_71 rfl ?_
          exact e_r_iret (ty := .int) rfl (e_nI _) dX11_kindHere_75 h
      · have h := hf15 c
        refine e_r_iconst (pc' := 55) dX11_kindHere_54 rfl (by decide) ?_
        exact e_r_iret (ty := .int) rfl (e_nI _) dX11_kindHere_55 h
    · have h := hf10 c
      refine e_r_iconst (pc' := 37) dX11_kindHere_36 rfl (by decide) ?_
      exact e_r_iret (ty := .int) rfl (e_nI _) dX11_kindHere_37 h
  · have h := hf5 c
    refine e_r_iconst (pc' := 19) dX11_kindHere_18 rfl (by decide) ?_
    exact e_r_iret (ty := .int) rfl (e_nI _) dX11_kindHere_19 h
theorem wp_X11_mostOf_0 {X : e_X} {d gn : Nat} {o : e_O} (M : e_M) (p0 : Int) (h : ((¬ p0 = 2 → (o = (.inl (some (.inl 6)), (557, gn, e_RF, M)))) ∧ (p0 = 2 → (o = (.inl (some (.inl 12)), (557, gn, e_RF, M)))))) : e_G X d YX11_mostOf 0 [some (.inl p0)] [] (557, gn, e_RF, M) o := by
  refine e_r_iload_n (pc' := 1) dX11_mostOf_0 rfl rfl rfl ?_
  refine e_r_iconst (pc' := 2) dX11_mostOf_1 rfl (by decide) ?_
  obtain ⟨ht1, hf2⟩ := h
  refine e_r_icmp_ne (tgt := 10) (pc' := 5) dX11_mostOf_2 rfl rfl (fun c => ?_) (fun c => ?_)
  · have h := ht1 c
    refine e_r_bipush (pc' := 12) dX11_mostOf_10 rfl (by decide) ?_
    exact e_r_iret (ty := .int) rfl (e_nI _) dX11_mostOf_12 h
  · have h := hf2 c
    refine e_r_bipush (pc' := 7) dX11_mostOf_5 rfl (by decide) ?_
    refine e_r_goto (pc' := 12) dX11_mostOf_7 rfl ?_
    exact e_r_iret (ty := .int) rfl (e_nI _) dX11_mostOf_12 h
theorem wp_X11_clause_0 {X : e_X} {d gn : Nat} {o : e_O} (M : e_M) (hmo : e_mn (557, gn, e_RF, M) o.2) (h : (∃ (r2 : Int) (N1 : e_M), e_E X d YX11_kindHere [.inr (.inr 64)] (557, gn, e_RF, M) (.inl (some (.inl r2)), (557, gn, e_RF, N1)) ∧ ((¬ r2 = (-1) → (((N1 64 7) = 60 → e_G X (d + 1) YX11_clause 49 [some (.inr (.inr 64)), some (.inl r2), none, none, none] [] (557, gn, e_RF, N1) o) ∧ (¬ ((N1 64 7) = 60) → ((3 ≤ r2 → e_G X (d + 1) YX11_clause 58 [some (.inr (.inr 64)), some (.inl r2), none, none, none] [] (557, gn, e_RF, N1) o) ∧ (¬ (3 ≤ r2) → ((0 ≤ r2 ∧ r2 < 3) ∧ (∃ (r12 : Int) (N11 : e_M), e_E X d YX11_mostOf [.inl r2] (557, gn, e_RF, N1) (.inl (some (.inl r12)), (557, gn, e_RF, N11)) ∧ ((¬ (N1 67 r2.toNat) = r12 → e_G X (d + 1) YX11_clause 58 [some (.inr (.inr 64)), some (.inl r2), none, none, none] [] (557, gn, e_RF, N11) o) ∧ ((N1 67 r2.toNat) = r12 → e_G X (d + 1) YX11_clause 49 [some (.inr (.inr 64)), some (.inl r2), none, none, none] [] (557, gn, e_RF, N11) o))))))))) ∧ (r2 = (-1) → (∃ N16 : e_M, e_E X d YX11_wrong [.inr (.inr 64), .inl 1, .inl (N1 64 4)] (557, gn, e_RF, N1) (.inl none, (557, gn, e_RF, N16)) ∧ e_G X (d + 1) YX11_clause 58 [some (.inr (.inr 64)), some (.inl r2), none, none, none] [] (557, gn, e_RF, N16) o))))) : e_G X (d + 1) YX11_clause 0 [some (.inr (.inr 64)), none, none, none, none] [] (557, gn, e_RF, M) o := by
  refine e_r_aload_n (pc' := 1) (by decide) dX11_clause_0 rfl rfl rfl ?_
  obtain ⟨r2, N1, he3, h⟩ := h
  refine e_r_callV (a := 64) (av := []) (st := []) mqYX11_kindHere ml_RX11_159 cl_11 rfl (Nat.le_of_ble_eq_true rfl) (by simp [e_cat]) rfl rfl rfl dX11_clause_1 (pc' := 4) rfl he3 ⟨Nat.le_refl _, Nat.le_refl _⟩ hmo ?_
  refine e_r_istore_n (pc' := 5) (loc' := [some (.inr (.inr 64)), some (.inl r2), none, none, none]) dX11_clause_4 rfl rfl rfl rfl rfl ?_
  refine e_r_iload_n (pc' := 6) dX11_clause_5 rfl rfl rfl ?_
  refine e_r_iconst (pc' := 7) dX11_clause_6 rfl (by decide) ?_
  obtain ⟨ht4, hf5⟩ := h
  refine e_r_icmp_ne (tgt := 22) (pc' := 10) dX11_clause_7 rfl rfl (fun c => ?_) (fun c => ?_)
  · have h := ht4 c
    refine e_r_aload_n (pc' := 23) (by decide) dX11_clause_22 rfl rfl rfl ?_
    refine e_r_geti (k := 7) (pc' := 26) cl_11 rfl (Nat.le_of_ble_eq_true rfl) rfl rfl fl_RX11_153 dX11_clause_23 rfl ?_
    refine e_r_bipush (pc' := 28) dX11_clause_26 rfl (by decide) ?_
    obtain ⟨ht6, hf7⟩ := h
    refine e_r_icmp_eq (tgt := 49) (pc' := 31) dX11_clause_28 rfl rfl (fun c => ?_) (fun c => ?_)
    · have h := ht6 c
      exact h
    · have h := hf7 c
      refine e_r_iload_n (pc' := 32) dX11_clause_31 rfl rfl rfl ?_
      refine e_r_iconst (pc' := 33) dX11_clause_32 rfl (by decide) ?_
      obtain ⟨ht8, hf9⟩ := h
      refine e_r_icmp_ge (tgt := 58) (pc' := 36) dX11_clause_33 rfl rfl (fun c => ?_) (fun c => ?_)
      · have h := ht8 c
        exact h
      · have h := hf9 c
        refine e_r_aload_n (pc' := 37) (by decide) dX11_clause_36 rfl rfl rfl ?_
        refine e_r_getr (k := 11) (q := 67) (pc' := 40) cl_11 rfl (Nat.le_of_ble_eq_true rfl) rfl rfl fl_RX11_20 rfl (Nat.le_of_ble_eq_true rfl) dX11_clause_37 rfl ?_
        refine e_r_iload_n (pc' := 41) dX11_clause_40 rfl rfl rfl ?_
        obtain ⟨hb10, h⟩ := h
        refine e_r_iald (j9 := r2.toNat) (pc' := 42) rfl (Nat.le_of_ble_eq_true rfl) hb10.1 hb10.2 rfl dX11_clause_41 rfl ?_
        refine e_r_iload_n (pc' := 43) dX11_clause_42 rfl rfl rfl ?_
        obtain ⟨r12, N11, he13, h⟩ := h
        refine e_r_callS (av := [.inl r2]) (st := [.inl (N1 67 r2.toNat)]) mqYX11_mostOf ml_RX11_162 (by simp [e_cat]) rfl rfl rfl dX11_clause_43 (pc' := 46) rfl he13 ⟨Nat.le_refl _, Nat.le_refl _⟩ hmo ?_
        obtain ⟨ht14, hf15⟩ := h
        refine e_r_icmp_ne (tgt := 58) (pc' := 49) dX11_clause_46 rfl rfl (fun c => ?_) (fun c => ?_)
        · have h := ht14 c
          exact h
        · have h := hf15 c
          exact h
  · have h := hf5 c
    refine e_r_aload_n (pc' := 11) (by decide) dX11_clause_10 rfl rfl rfl ?_
    refine e_r_iconst (pc' := 12) dX11_clause_11 rfl (by decide) ?_
    refine e_r_aload_n (pc' := 13) (by decide) dX11_clause_12 rfl rfl rfl ?_
    refine e_r_geti (k := 4) (pc' := 16) cl_11 rfl (Nat.le_of_ble_eq_true rfl) rfl rfl fl_RX11_106 dX11_clause_13 rfl ?_
    obtain ⟨N16, he17, h⟩ := h
    refine e_r_callV (a := 64) (av := [.inl 1, .inl (N1 64 4)]) (st := []) mqYX11_wrong ml_RX11_126 cl_11 rfl (Nat.le_of_ble_eq_true rfl) (by simp [e_cat]) rfl rfl rfl dX11_clause_16 (pc' := 19) rfl he17 ⟨Nat.le_refl _, Nat.le_refl _⟩ hmo ?_
    refine e_r_goto (pc' := 58) dX11_clause_19 rfl ?_
    exact h
theorem wp_X11_clause_58 {X : e_X} {d gn : Nat} {o : e_O} (M : e_M) (v1 : Int) (hmo : e_mn (557, gn, e_RF, M) o.2) (h : (((M 64 5) = 0 → (∃ N3 : e_M, e_E X d YX11_skipWord [.inr (.inr 64)] (557, gn, e_RF, M) (.inl none, (557, gn, e_RF, N3)) ∧ ((3 ≤ v1 → e_G X (d + 1) YX11_clause 95 [some (.inr (.inr 64)), some (.inl v1), none, none, none] [.inl 0] (557, gn, e_RF, (e_up N3 64 7 (e_w ((N3 64 7) + 1)))) o) ∧ (¬ (3 ≤ v1) → ((0 ≤ v1 ∧ v1 < 3) ∧ e_G X (d + 1) YX11_clause 95 [some (.inr (.inr 64)), some (.inl v1), none, none, none] [.inl ((e_up N3 64 7 (e_w ((N3 64 7) + 1))) 67 v1.toNat)] (557, gn, e_RF, (e_up N3 64 7 (e_w ((N3 64 7) + 1)))) o))))) ∧ (¬ ((M 64 5) = 0) → (o = (.inl none, (557, gn, e_RF, M)))))) : e_G X (d + 1) YX11_clause 58 [some (.inr (.inr 64)), some (.inl v1), none, none, none] [] (557, gn, e_RF, M) o := by
  refine e_r_aload_n (pc' := 59) (by decide) dX11_clause_58 rfl rfl rfl ?_
  refine e_r_geti (k := 5) (pc' := 62) cl_11 rfl (Nat.le_of_ble_eq_true rfl) rfl rfl fl_RX11_113 dX11_clause_59 rfl ?_
  obtain ⟨ht1, hf2⟩ := h
  refine e_r_if_eq (tgt := 66) (pc' := 65) dX11_clause_62 rfl rfl (fun c => ?_) (fun c => ?_)
  · have h := ht1 c
    refine e_r_aload_n (pc' := 67) (by decide) dX11_clause_66 rfl rfl rfl ?_
    obtain ⟨N3, he4, h⟩ := h
    refine e_r_callV (a := 64) (av := []) (st := []) mqYX11_skipWord ml_RX11_150 cl_11 rfl (Nat.le_of_ble_eq_true rfl) (by simp [e_cat]) rfl rfl rfl dX11_clause_67 (pc' := 70) rfl he4 ⟨Nat.le_refl _, Nat.le_refl _⟩ hmo ?_
    refine e_r_aload_n (pc' := 71) (by decide) dX11_clause_70 rfl rfl rfl ?_
    refine e_r_dup (pc' := 72) rfl dX11_clause_71 rfl ?_
    refine e_r_geti (k := 7) (pc' := 75) cl_11 rfl (Nat.le_of_ble_eq_true rfl) rfl rfl fl_RX11_153 dX11_clause_72 rfl ?_
    refine e_r_iconst (pc' := 76) dX11_clause_75 rfl (by decide) ?_
    refine e_r_iadd (pc' := 77) dX11_clause_76 rfl ?_
    refine e_r_puti (k := 7) (pc' := 80) cl_11 rfl (Nat.le_of_ble_eq_true rfl) rfl rfl fl_RX11_153 rfl (by decide +kernel) dX11_clause_77 rfl ?_
    refine e_r_iload_n (pc' := 81) dX11_clause_80 rfl rfl rfl ?_
    refine e_r_iconst (pc' := 82) dX11_clause_81 rfl (by decide) ?_
    obtain ⟨ht5, hf6⟩ := h
    refine e_r_icmp_ge (tgt := 94) (pc' := 85) dX11_clause_82 rfl rfl (fun c => ?_) (fun c => ?_)
    · have h := ht5 c
      refine e_r_iconst (pc' := 95) dX11_clause_94 rfl (by decide) ?_
      exact h
    · have h := hf6 c
      refine e_r_aload_n (pc' := 86) (by decide) dX11_clause_85 rfl rfl rfl ?_
      refine e_r_getr (k := 11) (q := 67) (pc' := 89) cl_11 rfl (Nat.le_of_ble_eq_true rfl) rfl rfl fl_RX11_20 rfl (Nat.le_of_ble_eq_true rfl) dX11_clause_86 rfl ?_
      refine e_r_iload_n (pc' := 90) dX11_clause_89 rfl rfl rfl ?_
      obtain ⟨hb7, h⟩ := h
      refine e_r_iald (j9 := v1.toNat) (pc' := 91) rfl (Nat.le_of_ble_eq_true rfl) hb7.1 hb7.2 rfl dX11_clause_90 rfl ?_
      refine e_r_goto (pc' := 95) dX11_clause_91 rfl ?_
      exact h
  · have h := hf2 c
    exact e_r_vret rfl dX11_clause_65 h
theorem wp_X11_clause_95 {X : e_X} {d gn : Nat} {o : e_O} (M : e_M) (v1 w0 : Int) (hmo : e_mn (557, gn, e_RF, M) o.2) (h : ((v1 = 0 → ((0 ≤ w0 ∧ w0 < 6) ∧ (∃ (r7 : Int) (N6 : e_M), e_E X d YX11_number [.inr (.inr 64), .inl 0, .inl 500] (557, gn, e_RF, M) (.inl (some (.inl r7)), (557, gn, e_RF, N6)) ∧ ((0 ≤ w0 ∧ w0 < 6) ∧ (∃ (r11 : Int) (N10 : e_M), e_E X d YX11_number [.inr (.inr 64), .inl 0, .inl 30] (557, gn, e_RF, (e_up N6 (74 + w0.toNat) 0 r7)) (.inl (some (.inl r11)), (557, gn, e_RF, N10)) ∧ e_G X (d + 1) YX11_clause 280 [some (.inr (.inr 64)), some (.inl v1), some (.inl w0), none, none] [] (557, gn, e_RF, (e_up N10 (74 + w0.toNat) 1 r11)) o))))) ∧ (v1 = 1 → (∃ (r14 : Int) (N13 : e_M), e_E X d YX11_number [.inr (.inr 64), .inl 1, .inl 30] (557, gn, e_RF, M) (.inl (some (.inl r14)), (557, gn, e_RF, N13)) ∧ ((0 ≤ w0 ∧ w0 < 6) ∧ e_G X (d + 1) YX11_clause 280 [some (.inr (.inr 64)), some (.inl v1), some (.inl w0), none, none] [] (557, gn, e_RF, (e_up N13 69 w0.toNat r14)) o))) ∧ (v1 = 2 → ((0 ≤ w0 ∧ w0 < 12) ∧ (∃ (r19 : Int) (N18 : e_M), e_E X d YX11_number [.inr (.inr 64), .inl 0, .inl (e_w ((M 67 0) - 1))] (557, gn, e_RF, M) (.inl (some (.inl r19)), (557, gn, e_RF, N18)) ∧ ((0 ≤ w0 ∧ w0 < 12) ∧ (∃ (r23 : Int) (N22 : e_M), e_E X d YX11_number [.inr (.inr 64), .inl 0, .inl 60] (557, gn, e_RF, (e_up N18 (88 + w0.toNat) 0 r19)) (.inl (some (.inl r23)), (557, gn, e_RF, N22)) ∧ ((0 ≤ w0 ∧ w0 < 12) ∧ (∃ (r27 : Int) (N26 : e_M), e_E X d YX11_number [.inr (.inr 64), .inl 0, .inl 60] (557, gn, e_RF, (e_up N22 (88 + w0.toNat) 1 r23)) (.inl (some (.inl r27)), (557, gn, e_RF, N26)) ∧ e_G X (d + 1) YX11_clause 280 [some (.inr (.inr 64)), some (.inl v1), some (.inl w0), none, none] [] (557, gn, e_RF, (e_up N26 (88 + w0.toNat) 2 r27)) o))))))) ∧ (v1 < 0 ∨ 2 < v1 → (∃ (r30 : Int) (N29 : e_M), e_E X d YX11_number [.inr (.inr 64), .inl 0, .inl (e_w ((M 67 0) - 1))] (557, gn, e_RF, M) (.inl (some (.inl r30)), (557, gn, e_RF, N29)) ∧ (∃ (r33 : Int) (N32 : e_M), e_E X d YX11_number [.inr (.inr 64), .inl 0, .inl (e_w ((N29 67 1) - 1))] (557, gn, e_RF, N29) (.inl (some (.inl r33)), (557, gn, e_RF, N32)) ∧ ((¬ (N32 64 5) = 0 → e_G X (d + 1) YX11_clause 280 [some (.inr (.inr 64)), some (.inl v1), some (.inl w0), none, none] [] (557, gn, e_RF, N32) o) ∧ ((N32 64 5) = 0 → ((0 ≤ r30 ∧ r30 < 6) ∧ ((0 ≤ r30 ∧ r30 < 6) ∧ e_G X (d + 1) YX11_clause 280 [some (.inr (.inr 64)), some (.inl v1), some (.inl w0), none, none] [] (557, gn, e_RF, (e_up N32 71 r30.toNat (e_or (N32 71 r30.toNat) (e_shl 1 r33)))) o))))))))) : e_G X (d + 1) YX11_clause 95 [some (.inr (.inr 64)), some (.inl v1), none, none, none] [.inl w0] (557, gn, e_RF, M) o := by
  refine e_r_istore_n (pc' := 96) (loc' := [some (.inr (.inr 64)), some (.inl v1), some (.inl w0), none, none]) dX11_clause_95 rfl rfl rfl rfl rfl ?_
  refine e_r_iload_n (pc' := 97) dX11_clause_96 rfl rfl rfl ?_
  obtain ⟨hk1, hk2, hk3, hd4⟩ := h
  refine e_r_table (tgt := 228) dX11_clause_97 rfl (fun j => bif Nat.beq j 0 then 124 else bif Nat.beq j 1 then 158 else 174) (fun j hj => ?_) (fun j ej hj => ?_) (fun c => ?_)
  · rcases (show j = 0 ∨ j = 1 ∨ j = 2 by omega) with rfl | rfl | rfl
    · exact ⟨27, rfl, rfl⟩
    · exact ⟨61, rfl, rfl⟩
    · exact ⟨77, rfl, rfl⟩
  · rcases (show j = 0 ∨ j = 1 ∨ j = 2 by omega) with rfl | rfl | rfl
    · have h := hk1 (by omega)
      show e_G X (d + 1) YX11_clause 124 [some (.inr (.inr 64)), some (.inl v1), some (.inl w0), none, none] [] (557, gn, e_RF, M) o
      refine e_r_aload_n (pc' := 125) (by decide) dX11_clause_124 rfl rfl rfl ?_
      refine e_r_getr (k := 17) (q := 73) (pc' := 128) cl_11 rfl (Nat.le_of_ble_eq_true rfl) rfl rfl fl_RX11_40 rfl (Nat.le_of_ble_eq_true rfl) dX11_clause_125 rfl ?_
      refine e_r_iload_n (pc' := 129) dX11_clause_128 rfl rfl rfl ?_
      obtain ⟨hb5, h⟩ := h
      refine e_r_aldr (q := (74 + w0.toNat)) (pc' := 130) rfl (Nat.le_of_ble_eq_true rfl) hb5.1 hb5.2 rfl (sh_73 hb5.1 hb5.2).2.1 dX11_clause_129 rfl ?_
      refine e_r_iconst (pc' := 131) dX11_clause_130 rfl (by decide) ?_
      refine e_r_aload_n (pc' := 132) (by decide) dX11_clause_131 rfl rfl rfl ?_
      refine e_r_iconst (pc' := 133) dX11_clause_132 rfl (by decide) ?_
      refine e_r_sipush (pc' := 136) dX11_clause_133 rfl (by decide) ?_
      obtain ⟨r7, N6, he8, h⟩ := h
      refine e_r_callV (a := 64) (av := [.inl 0, .inl 500]) (st := [.inl 0, .inr (.inr (74 + w0.toNat))]) mqYX11_number ml_RX11_165 cl_11 rfl (Nat.le_of_ble_eq_true rfl) (by simp [e_cat]) rfl rfl rfl dX11_clause_136 (pc' := 139) rfl he8 ⟨Nat.le_refl _, Nat.le_refl _⟩ hmo ?_
      refine e_r_iast (j9 := 0) (pc' := 140) (sh_73 hb5.1 hb5.2).1 (sh_73 hb5.1 hb5.2).2.1 (by decide) (by decide) rfl dX11_clause_139 rfl ?_
      refine e_r_aload_n (pc' := 141) (by decide) dX11_clause_140 rfl rfl rfl ?_
      refine e_r_getr (k := 17) (q := 73) (pc' := 144) cl_11 rfl (Nat.le_of_ble_eq_true rfl) rfl rfl fl_RX11_40 rfl (Nat.le_of_ble_eq_true rfl) dX11_clause_141 rfl ?_
      refine e_r_iload_n (pc' := 145) dX11_clause_144 rfl rfl rfl ?_
      obtain ⟨hb9, h⟩ := h
      refine e_r_aldr (q := (74 + w0.toNat)) (pc' := 146) rfl (Nat.le_of_ble_eq_true rfl) hb9.1 hb9.2 rfl (sh_73 hb9.1 hb9.2).2.1 dX11_clause_145 rfl ?_
      refine e_r_iconst (pc' := 147) dX11_clause_146 rfl (by decide) ?_
      refine e_r_aload_n (pc' := 148) (by decide) dX11_clause_147 rfl rfl rfl ?_
      refine e_r_iconst (pc' := 149) dX11_clause_148 rfl (by decide) ?_
      refine e_r_bipush (pc' := 151) dX11_clause_149 rfl (by decide) ?_
      obtain ⟨r11, N10, he12, h⟩ := h
      refine e_r_callV (a := 64) (av := [.inl 0, .inl 30]) (st := [.inl 1, .inr (.inr (74 + w0.toNat))]) mqYX11_number ml_RX11_165 cl_11 rfl (Nat.le_of_ble_eq_true rfl) (by simp [e_cat]) rfl rfl rfl dX11_clause_151 (pc' := 154) rfl he12 ⟨Nat.le_refl _, Nat.le_refl _⟩ hmo ?_
      refine e_r_iast (j9 := 1) (pc' := 155) (sh_73 hb9.1 hb9.2).1 (sh_73 hb9.1 hb9.2).2.1 (by decide) (by decide) rfl dX11_clause_154 rfl ?_
      refine e_r_goto (pc' := 280) dX11_clause_155 rfl ?_
      exact h
    · have h := hk2 (by omega)
      show e_G X (d + 1) YX11_clause 158 [some (.inr (.inr 64)), some (.inl v1), some (.inl w0), none, none] [] (557, gn, e_RF, M) o
      refine e_r_aload_n (pc' := 159) (by decide) dX11_clause_158 rfl rfl rfl ?_
      refine e_r_getr (k := 13) (q := 69) (pc' := 162) cl_11 rfl (Nat.le_of_ble_eq_true rfl) rfl rfl fl_RX11_26 rfl (Nat.le_of_ble_eq_true rfl) dX11_clause_159 rfl ?_
      refine e_r_iload_n (pc' := 163) dX11_clause_162 rfl rfl rfl ?_
      refine e_r_aload_n (pc' := 164) (by decide) dX11_clause_163 rfl rfl rfl ?_
      refine e_r_iconst (pc' := 165) dX11_clause_164 rfl (by decide) ?_
      refine e_r_bipush (pc' := 167) dX11_clause_165 rfl (by decide) ?_
      obtain ⟨r14, N13, he15, h⟩ := h
      refine e_r_callV (a := 64) (av := [.inl 1, .inl 30]) (st := [.inl w0, .inr (.inr 69)]) mqYX11_number ml_RX11_165 cl_11 rfl (Nat.le_of_ble_eq_true rfl) (by simp [e_cat]) rfl rfl rfl dX11_clause_167 (pc' := 170) rfl he15 ⟨Nat.le_refl _, Nat.le_refl _⟩ hmo ?_
      obtain ⟨hb16, h⟩ := h
      refine e_r_iast (j9 := w0.toNat) (pc' := 171) rfl (Nat.le_of_ble_eq_true rfl) hb16.1 hb16.2 rfl dX11_clause_170 rfl ?_
      refine e_r_goto (pc' := 280) dX11_clause_171 rfl ?_
      exact h
    · have h := hk3 (by omega)
      show e_G X (d + 1) YX11_clause 174 [some (.inr (.inr 64)), some (.inl v1), some (.inl w0), none, none] [] (557, gn, e_RF, M) o
      refine e_r_aload_n (pc' := 175) (by decide) dX11_clause_174 rfl rfl rfl ?_
      refine e_r_getr (k := 19) (q := 87) (pc' := 178) cl_11 rfl (Nat.le_of_ble_eq_true rfl) rfl rfl fl_RX11_46 rfl (Nat.le_of_ble_eq_true rfl) dX11_clause_175 rfl ?_
      refine e_r_iload_n (pc' := 179) dX11_clause_178 rfl rfl rfl ?_
      obtain ⟨hb17, h⟩ := h
      refine e_r_aldr (q := (88 + w0.toNat)) (pc' := 180) rfl (Nat.le_of_ble_eq_true rfl) hb17.1 hb17.2 rfl (sh_87 hb17.1 hb17.2).2.1 dX11_clause_179 rfl ?_
      refine e_r_iconst (pc' := 181) dX11_clause_180 rfl (by decide) ?_
      refine e_r_aload_n (pc' := 182) (by decide) dX11_clause_181 rfl rfl rfl ?_
      refine e_r_iconst (pc' := 183) dX11_clause_182 rfl (by decide) ?_
      refine e_r_aload_n (pc' := 184) (by decide) dX11_clause_183 rfl rfl rfl ?_
      refine e_r_getr (k := 11) (q := 67) (pc' := 187) cl_11 rfl (Nat.le_of_ble_eq_true rfl) rfl rfl fl_RX11_20 rfl (Nat.le_of_ble_eq_true rfl) dX11_clause_184 rfl ?_
      refine e_r_iconst (pc' := 188) dX11_clause_187 rfl (by decide) ?_
      refine e_r_iald (j9 := 0) (pc' := 189) rfl (Nat.le_of_ble_eq_true rfl) (by decide) (by decide) rfl dX11_clause_188 rfl ?_
      refine e_r_iconst (pc' := 190) dX11_clause_189 rfl (by decide) ?_
      refine e_r_isub (pc' := 191) dX11_clause_190 rfl ?_
      obtain ⟨r19, N18, he20, h⟩ := h
      refine e_r_callV (a := 64) (av := [.inl 0, .inl (e_w ((M 67 0) - 1))]) (st := [.inl 0, .inr (.inr (88 + w0.toNat))]) mqYX11_number ml_RX11_165 cl_11 rfl (Nat.le_of_ble_eq_true rfl) (by simp [e_cat]) rfl rfl rfl dX11_clause_191 (pc' := 194) rfl he20 ⟨Nat.le_refl _, Nat.le_refl _⟩ hmo ?_
      refine e_r_iast (j9 := 0) (pc' := 195) (sh_87 hb17.1 hb17.2).1 (sh_87 hb17.1 hb17.2).2.1 (by decide) (by decide) rfl dX11_clause_194 rfl ?_
      refine e_r_aload_n (pc' := 196) (by decide) dX11_clause_195 rfl rfl rfl ?_
      refine e_r_getr (k := 19) (q := 87) (pc' := 199) cl_11 rfl (Nat.le_of_ble_eq_true rfl) rfl rfl fl_RX11_46 rfl (Nat.le_of_ble_eq_true rfl) dX11_clause_196 rfl ?_
      refine e_r_iload_n (pc' := 200) dX11_clause_199 rfl rfl rfl ?_
      obtain ⟨hb21, h⟩ := h
      refine e_r_aldr (q := (88 + w0.toNat)) (pc' := 201) rfl (Nat.le_of_ble_eq_true rfl) hb21.1 hb21.2 rfl (sh_87 hb21.1 hb21.2).2.1 dX11_clause_200 rfl ?_
      refine e_r_iconst (pc' := 202) dX11_clause_201 rfl (by decide) ?_
      refine e_r_aload_n (pc' := 203) (by decide) dX11_clause_202 rfl rfl rfl ?_
      refine e_r_iconst (pc' := 204) dX11_clause_203 rfl (by decide) ?_
      refine e_r_bipush (pc' := 206) dX11_clause_204 rfl (by decide) ?_
      obtain ⟨r23, N22, he24, h⟩ := h
      refine e_r_callV (a := 64) (av := [.inl 0, .inl 60]) (st := [.inl 1, .inr (.inr (88 + w0.toNat))]) mqYX11_number ml_RX11_165 cl_11 rfl (Nat.le_of_ble_eq_true rfl) (by simp [e_cat]) rfl rfl rfl dX11_clause_206 (pc' := 209) rfl he24 ⟨Nat.le_refl _, Nat.le_refl _⟩ hmo ?_
      refine e_r_iast (j9 := 1) (pc' := 210) (sh_87 hb21.1 hb21.2).1 (sh_87 hb21.1 hb21.2).2.1 (by decide) (by decide) rfl dX11_clause_209 rfl ?_
      refine e_r_aload_n (pc' := 211) (by decide) dX11_clause_210 rfl rfl rfl ?_
      refine e_r_getr (k := 19) (q := 87) (pc' := 214) cl_11 rfl (Nat.le_of_ble_eq_true rfl) rfl rfl fl_RX11_46 rfl (Nat.le_of_ble_eq_true rfl) dX11_clause_211 rfl ?_
      refine e_r_iload_n (pc' := 215) dX11_clause_214 rfl rfl rfl ?_
      obtain ⟨hb25, h⟩ := h
      refine e_r_aldr (q := (88 + w0.toNat)) (pc' := 216) rfl (Nat.le_of_ble_eq_true rfl) hb25.1 hb25.2 rfl (sh_87 hb25.1 hb25.2).2.1 dX11_clause_215 rfl ?_
      refine e_r_iconst (pc' := 217) dX11_clause_216 rfl (by decide) ?_
      refine e_r_aload_n (pc' := 218) (by decide) dX11_clause_217 rfl rfl rfl ?_
      refine e_r_iconst (pc' := 219) dX11_clause_218 rfl (by decide) ?_
      refine e_r_bipush (pc' := 221) dX11_clause_219 rfl (by decide) ?_
      obtain ⟨r27, N26, he28, h⟩ := h
      refine e_r_callV (a := 64) (av := [.inl 0, .inl 60]) (st := [.inl 2, .inr (.inr (88 + w0.toNat))]) mqYX11_number ml_RX11_165 cl_11 rfl (Nat.le_of_ble_eq_true rfl) (by simp [e_cat]) rfl rfl rfl dX11_clause_221 (pc' := 224) rfl he28 ⟨Nat.le_refl _, Nat.le_refl _⟩ hmo ?_
      refine e_r_iast (j9 := 2) (pc' := 225) (sh_87 hb25.1 hb25.2).1 (sh_87 hb25.1 hb25.2).2.1 (by decide) (by decide) rfl dX11_clause_224 rfl ?_
      refine e_r_goto (pc' := 280) dX11_clause_225 rfl ?_
      exact h
  · have h := hd4 c
    refine e_r_aload_n (pc' := 229) (by decide) dX11_clause_228 rfl rfl rfl ?_
    refine e_r_iconst (pc' := 230) dX11_clause_229 rfl (by decide) ?_
    refine e_r_aload_n (pc' := 231) (by decide) dX11_clause_230 rfl rfl rfl ?_
    refine e_r_getr (k := 11) (q := 67) (pc' := 234) cl_11 rfl (Nat.le_of_ble_eq_true rfl) rfl rfl fl_RX11_20 rfl (Nat.le_of_ble_eq_true rfl) dX11_clause_231 rfl ?_
    refine e_r_iconst (pc' := 235) dX11_clause_234 rfl (by decide) ?_
    refine e_r_iald (j9 := 0) (pc' := 236) rfl (Nat.le_of_ble_eq_true rfl) (by decide) (by decide) rfl dX11_clause_235 rfl ?_
    refine e_r_iconst (pc' := 237) dX11_clause_236 rfl (by decide) ?_
    refine e_r_isub (pc' := 238) dX11_clause_237 rfl ?_
    obtain ⟨r30, N29, he31, h⟩ := h
    refine e_r_callV (a := 64) (av := [.inl 0, .inl (e_w ((M 67 0) - 1))]) (st := []) mqYX11_number ml_RX11_165 cl_11 rfl (Nat.le_of_ble_eq_true rfl) (by simp [e_cat]) rfl rfl rfl dX11_clause_238 (pc' := 241) rfl he31 ⟨Nat.le_refl _, Nat.le_refl _⟩ hmo ?_
    refine e_r_istore_n (pc' := 242) (loc' := [some (.inr (.inr 64)), some (.inl v1), some (.inl w0), some (.inl r30), none]) dX11_clause_241 rfl rfl rfl rfl rfl ?_
    refine e_r_aload_n (pc' := 243) (by decide) dX11_clause_242 rfl rfl rfl ?_
    refine e_r_iconst (pc' := 244) dX11_clause_243 rfl (by decide) ?_
    refine e_r_aload_n (pc' := 245) (by decide) dX11_clause_244 rfl rfl rfl ?_
    refine e_r_getr (k := 11) (q := 67) (pc' := 248) cl_11 rfl (Nat.le_of_ble_eq_true rfl) rfl rfl fl_RX11_20 rfl (Nat.le_of_ble_eq_true rfl) dX11_clause_245 rfl ?_
    refine e_r_iconst (pc' := 249) dX11_clause_248 rfl (by decide) ?_
    refine e_r_iald (j9 := 1) (pc' := 250) rfl (Nat.le_of_ble_eq_true rfl) (by decide) (by decide) rfl dX11_clause_249 rfl ?_
    refine e_r_iconst (pc' := 251) dX11_clause_250 rfl (by decide) ?_
    refine e_r_isub (pc' := 252) dX11_clause_251 rfl ?_
    obtain ⟨r33, N32, he34, h⟩ := h
    refine e_r_callV (a := 64) (av := [.inl 0, .inl (e_w ((N29 67 1) - 1))]) (st := []) mqYX11_number ml_RX11_165 cl_11 rfl (Nat.le_of_ble_eq_true rfl) (by simp [e_cat]) rfl rfl rfl dX11_clause_252 (pc' := 255) rfl he34 ⟨Nat.le_refl _, Nat.le_refl _⟩ hmo ?_
    refine e_r_istore (pc' := 257) (loc' := [some (.inr (.inr 64)), some (.inl v1), some (.inl w0), some (.inl r30), some (.inl r33)]) dX11_clause_255 rfl rfl rfl rfl ?_
    refine e_r_aload_n (pc' := 258) (by decide) dX11_clause_257 rfl rfl rfl ?_
    refine e_r_geti (k := 5) (pc' := 261) cl_11 rfl (Nat.le_of_ble_eq_true rfl) rfl rfl fl_RX11_113 dX11_clause_258 rfl ?_
    obtain ⟨ht35, hf36⟩ := h
    refine e_r_if_ne (tgt := 280) (pc' := 264) dX11_clause_261 rfl rfl (fun c => ?_) (fun c => ?_)
    · have h := ht35 c
      exact e_forget (m := [true, true, true, false, false]) h rfl
    · have h := hf36 c
      refine e_r_aload_n (pc' := 265) (by decide) dX11_clause_264 rfl rfl rfl ?_
      refine e_r_getr (k := 15) (q := 71) (pc' := 268) cl_11 rfl (Nat.le_of_ble_eq_true rfl) rfl rfl fl_RX11_32 rfl (Nat.le_of_ble_eq_true rfl) dX11_clause_265 rfl ?_
      refine e_r_iload_n (pc' := 269) dX11_clause_268 rfl rfl rfl ?_
      refine e_r_dup2 (pc' := 270) rfl rfl dX11_clause_269 rfl ?_
      obtain ⟨hb37, h⟩ := h
      refine e_r_iald (j9 := r30.toNat) (pc' := 271) rfl (Nat.le_of_ble_eq_true rfl) hb37.1 hb37.2 rfl dX11_clause_270 rfl ?_
      refine e_r_iconst (pc' := 272) dX11_clause_271 rfl (by decide) ?_
      refine e_r_iload (pc' := 274) dX11_clause_272 rfl rfl ?_
      refine e_r_ishl (pc' := 275) dX11_clause_274 rfl ?_
      refine e_r_ior (pc' := 276) dX11_clause_275 rfl ?_
      obtain ⟨hb38, h⟩ := h
      refine e_r_iast (j9 := r30.toNat) (pc' := 277) rfl (Nat.le_of_ble_eq_true rfl) hb38.1 hb38.2 rfl dX11_clause_276 rfl ?_
      refine e_r_goto (pc' := 280) dX11_clause_277 rfl ?_
      exact e_forget (m := [true, true, true, false, false]) h rfl
theorem wp_X11_clause_280 {X : e_X} {d gn : Nat} {o : e_O} (M : e_M) (v1 v2 : Int) (hmo : e_mn (557, gn, e_RF, M) o.2) (h : (∃ N1 : e_M, e_E X d YX11_sign [.inr (.inr 64), .inl 59] (557, gn, e_RF, M) (.inl none, (557, gn, e_RF, N1)) ∧ ((3 ≤ v1 → (o = (.inl none, (557, gn, e_RF, N1)))) ∧ (¬ (3 ≤ v1) → ((0 ≤ v1 ∧ v1 < 3) ∧ ((¬ (N1 64 5) = 0 → e_G X (d + 1) YX11_clause 310 [some (.inr (.inr 64)), some (.inl v1), some (.inl v2), none, none] [.inl 0, .inl (N1 67 v1.toNat), .inl v1, .inr (.inr 67)] (557, gn, e_RF, N1) o) ∧ ((N1 64 5) = 0 → e_G X (d + 1) YX11_clause 310 [some (.inr (.inr 64)), some (.inl v1), some (.inl v2), none, none] [.inl 1, .inl (N1 67 v1.toNat), .inl v1, .inr (.inr 67)] (557, gn, e_RF, N1) o))))))) : e_G X (d + 1) YX11_clause 280 [some (.inr (.inr 64)), some (.inl v1), some (.inl v2), none, none] [] (557, gn, e_RF, M) o := by
  refine e_r_aload_n (pc' := 281) (by decide) dX11_clause_280 rfl rfl rfl ?_
  refine e_r_bipush (pc' := 283) dX11_clause_281 rfl (by decide) ?_
  obtain ⟨N1, he2, h⟩ := h
  refine e_r_callV (a := 64) (av := [.inl 59]) (st := []) mqYX11_sign ml_RX11_169 cl_11 rfl (Nat.le_of_ble_eq_true rfl) (by simp [e_cat]) rfl rfl rfl dX11_clause_283 (pc' := 286) rfl he2 ⟨Nat.le_refl _, Nat.le_refl _⟩ hmo ?_
  refine e_r_iload_n (pc' := 287) dX11_clause_286 rfl rfl rfl ?_
  refine e_r_iconst (pc' := 288) dX11_clause_287 rfl (by decide) ?_
  obtain ⟨ht3, hf4⟩ := h
  refine e_r_icmp_ge (tgt := 312) (pc' := 291) dX11_clause_288 rfl rfl (fun c => ?_) (fun c => ?_)
  · have h := ht3 c
    exact e_r_vret rfl dX11_clause_312 h
  · have h := hf4 c
    refine e_r_aload_n (pc' := 292) (by decide) dX11_clause_291 rfl rfl rfl ?_
    refine e_r_getr (k := 11) (q := 67) (pc' := 295) cl_11 rfl (Nat.le_of_ble_eq_true rfl) rfl rfl fl_RX11_20 rfl (Nat.le_of_ble_eq_true rfl) dX11_clause_292 rfl ?_
    refine e_r_iload_n (pc' := 296) dX11_clause_295 rfl rfl rfl ?_
    refine e_r_dup2 (pc' := 297) rfl rfl dX11_clause_296 rfl ?_
    obtain ⟨hb5, h⟩ := h
    refine e_r_iald (j9 := v1.toNat) (pc' := 298) rfl (Nat.le_of_ble_eq_true rfl) hb5.1 hb5.2 rfl dX11_clause_297 rfl ?_
    refine e_r_aload_n (pc' := 299) (by decide) dX11_clause_298 rfl rfl rfl ?_
    refine e_r_geti (k := 5) (pc' := 302) cl_11 rfl (Nat.le_of_ble_eq_true rfl) rfl rfl fl_RX11_113 dX11_clause_299 rfl ?_
    obtain ⟨ht6, hf7⟩ := h
    refine e_r_if_ne (tgt := 309) (pc' := 305) dX11_clause_302 rfl rfl (fun c => ?_) (fun c => ?_)
    · have h := ht6 c
      refine e_r_iconst (pc' := 310) dX11_clause_309 rfl (by decide) ?_
      exact h
    · have h := hf7 c
      refine e_r_iconst (pc' := 306) dX11_clause_305 rfl (by decide) ?_
      refine e_r_goto (pc' := 310) dX11_clause_306 rfl ?_
      exact h
theorem wp_X11_clause_310 {X : e_X} {d gn : Nat} {o : e_O} (M : e_M) (v1 v2 w0 w1 w2 : Int) (h : ((0 ≤ w2 ∧ w2 < 3) ∧ (o = (.inl none, (557, gn, e_RF, (e_up M 67 w2.toNat (e_w (w1 + w0)))))))) : e_G X (d + 1) YX11_clause 310 [some (.inr (.inr 64)), some (.inl v1), some (.inl v2), none, none] [.inl w0, .inl w1, .inl w2, .inr (.inr 67)] (557, gn, e_RF, M) o := by
  refine e_r_iadd (pc' := 311) dX11_clause_310 rfl ?_
  obtain ⟨hb1, h⟩ := h
  refine e_r_iast (j9 := w2.toNat) (pc' := 312) rfl (Nat.le_of_ble_eq_true rfl) hb1.1 hb1.2 rfl dX11_clause_311 rfl ?_
  exact e_r_vret rfl dX11_clause_312 h
theorem wp_X11_clause_49 {X : e_X} {d gn : Nat} {o : e_O} (M : e_M) (v1 : Int) (hmo : e_mn (557, gn, e_RF, M) o.2) (h : (∃ N1 : e_M, e_E X d YX11_wrong [.inr (.inr 64), .inl 3, .inl (M 64 4)] (557, gn, e_RF, M) (.inl none, (557, gn, e_RF, N1)) ∧ e_G X (d + 1) YX11_clause 58 [some (.inr (.inr 64)), some (.inl v1), none, none, none] [] (557, gn, e_RF, N1) o)) : e_G X (d + 1) YX11_clause 49 [some (.inr (.inr 64)), some (.inl v1), none, none, none] [] (557, gn, e_RF, M) o := by
  refine e_r_aload_n (pc' := 50) (by decide) dX11_clause_49 rfl rfl rfl ?_
  refine e_r_iconst (pc' := 51) dX11_clause_50 rfl (by decide) ?_
  refine e_r_aload_n (pc' := 52) (by decide) dX11_clause_51 rfl rfl rfl ?_
  refine e_r_geti (k := 4) (pc' := 55) cl_11 rfl (Nat.le_of_ble_eq_true rfl) rfl rfl fl_RX11_106 dX11_clause_52 rfl ?_
  obtain ⟨N1, he2, h⟩ := h
  refine e_r_callV (a := 64) (av := [.inl 3, .inl (M 64 4)]) (st := []) mqYX11_wrong ml_RX11_126 cl_11 rfl (Nat.le_of_ble_eq_true rfl) (by simp [e_cat]) rfl rfl rfl dX11_clause_55 (pc' := 58) rfl he2 ⟨Nat.le_refl _, Nat.le_refl _⟩ hmo ?_
  exact h
theorem wp_X11_town_0 {X : e_X} {d gn : Nat} {o : e_O} (M : e_M) (p1 : Int) (hmo : e_mn (557, gn, e_RF, M) o.2) (h : (∃ (r2 : Int) (N1 : e_M), e_E X d YX11_in [.inl p1, .inl 0, .inl ((e_up M 64 0 0) 64 1)] (557, gn, e_RF, (e_up M 64 0 0)) (.inl (some (.inl r2)), (557, gn, e_RF, N1)) ∧ ((¬ r2 = 0 → e_G X (d + 1) YX11_town 23 [some (.inr (.inr 64)), some (.inl p1)] [.inl 0, .inr (.inr 64)] (557, gn, e_RF, N1) o) ∧ (r2 = 0 → e_G X (d + 1) YX11_town 23 [some (.inr (.inr 64)), some (.inl p1)] [.inl 1, .inr (.inr 64)] (557, gn, e_RF, N1) o)))) : e_G X (d + 1) YX11_town 0 [some (.inr (.inr 64)), some (.inl p1)] [] (557, gn, e_RF, M) o := by
  refine e_r_aload_n (pc' := 1) (by decide) dX11_town_0 rfl rfl rfl ?_
  refine e_r_iconst (pc' := 2) dX11_town_1 rfl (by decide) ?_
  refine e_r_puti (k := 0) (pc' := 5) cl_11 rfl (Nat.le_of_ble_eq_true rfl) rfl rfl fl_RX11_97 rfl (by decide +kernel) dX11_town_2 rfl ?_
  refine e_r_aload_n (pc' := 6) (by decide) dX11_town_5 rfl rfl rfl ?_
  refine e_r_iload_n (pc' := 7) dX11_town_6 rfl rfl rfl ?_
  refine e_r_iconst (pc' := 8) dX11_town_7 rfl (by decide) ?_
  refine e_r_aload_n (pc' := 9) (by decide) dX11_town_8 rfl rfl rfl ?_
  refine e_r_geti (k := 1) (pc' := 12) cl_11 rfl (Nat.le_of_ble_eq_true rfl) rfl rfl fl_RX11_100 dX11_town_9 rfl ?_
  obtain ⟨r2, N1, he3, h⟩ := h
  refine e_r_callS (av := [.inl p1, .inl 0, .inl ((e_up M 64 0 0) 64 1)]) (st := [.inr (.inr 64)]) mqYX11_in ml_RX11_131 (by simp [e_cat]) rfl rfl rfl dX11_town_12 (pc' := 15) rfl he3 ⟨Nat.le_refl _, Nat.le_refl _⟩ hmo ?_
  obtain ⟨ht4, hf5⟩ := h
  refine e_r_if_ne (tgt := 22) (pc' := 18) dX11_town_15 rfl rfl (fun c => ?_) (fun c => ?_)
  · have h := ht4 c
    refine e_r_iconst (pc' := 23) dX11_town_22 rfl (by decide) ?_
    exact h
  · have h := hf5 c
    refine e_r_iconst (pc' := 19) dX11_town_18 rfl (by decide) ?_
    refine e_r_goto (pc' := 23) dX11_town_19 rfl ?_
    exact h
theorem wp_X11_town_23 {X : e_X} {d gn : Nat} {o : e_O} (M : e_M) (p1 w0 : Int) (hmo : e_mn (557, gn, e_RF, M) o.2) (h : (∃ (r2 : Int) (N1 : e_M), e_E X d YX11_bad [.inr (.inr 64), .inl w0, .inl 1, .inl 1] (557, gn, e_RF, M) (.inl (some (.inl r2)), (557, gn, e_RF, N1)) ∧ ((r2 = 0 → (∃ N6 : e_M, e_E X d YX11_starts [.inr (.inr 64), .inl p1] (557, gn, e_RF, N1) (.inl none, (557, gn, e_RF, N6)) ∧ (∃ N8 : e_M, e_E X d YX11_tellsNothing [.inr (.inr 64)] (557, gn, e_RF, N6) (.inl none, (557, gn, e_RF, N8)) ∧ e_G X (d + 1) YX11_town 42 [some (.inr (.inr 64)), some (.inl p1)] [] (557, gn, e_RF, N8) o))) ∧ (¬ (r2 = 0) → (o = (.inl (some (.inl 0)), (557, gn, e_RF, N1))))))) : e_G X (d + 1) YX11_town 23 [some (.inr (.inr 64)), some (.inl p1)] [.inl w0, .inr (.inr 64)] (557, gn, e_RF, M) o := by
  refine e_r_iconst (pc' := 24) dX11_town_23 rfl (by decide) ?_
  refine e_r_iconst (pc' := 25) dX11_town_24 rfl (by decide) ?_
  obtain ⟨r2, N1, he3, h⟩ := h
  refine e_r_callV (a := 64) (av := [.inl w0, .inl 1, .inl 1]) (st := []) mqYX11_bad ml_RX11_173 cl_11 rfl (Nat.le_of_ble_eq_true rfl) (by simp [e_cat]) rfl rfl rfl dX11_town_25 (pc' := 28) rfl he3 ⟨Nat.le_refl _, Nat.le_refl _⟩ hmo ?_
  obtain ⟨ht4, hf5⟩ := h
  refine e_r_if_eq (tgt := 33) (pc' := 31) dX11_town_28 rfl rfl (fun c => ?_) (fun c => ?_)
  · have h := ht4 c
    refine e_r_aload_n (pc' := 34) (by decide) dX11_town_33 rfl rfl rfl ?_
    refine e_r_iload_n (pc' := 35) dX11_town_34 rfl rfl rfl ?_
    obtain ⟨N6, he7, h⟩ := h
    refine e_r_callV (a := 64) (av := [.inl p1]) (st := []) mqYX11_starts ml_RX11_177 cl_11 rfl (Nat.le_of_ble_eq_true rfl) (by simp [e_cat]) rfl rfl rfl dX11_town_35 (pc' := 38) rfl he7 ⟨Nat.le_refl _, Nat.le_refl _⟩ hmo ?_
    refine e_r_aload_n (pc' := 39) (by decide) dX11_town_38 rfl rfl rfl ?_
    obtain ⟨N8, he9, h⟩ := h
    refine e_r_callV (a := 64) (av := []) (st := []) mqYX11_tellsNothing ml_RX11_91 cl_11 rfl (Nat.le_of_ble_eq_true rfl) (by simp [e_cat]) rfl rfl rfl dX11_town_39 (pc' := 42) rfl he9 ⟨Nat.le_refl _, Nat.le_refl _⟩ hmo ?_
    exact h
  · have h := hf5 c
    refine e_r_iconst (pc' := 32) dX11_town_31 rfl (by decide) ?_
    exact e_r_iret (ty := .int) rfl (e_nI _) dX11_town_32 h
theorem wp_X11_town_42 {X : e_X} {d gn : Nat} {o : e_O} (M : e_M) (p1 : Int) (hmo : e_mn (557, gn, e_RF, M) o.2) (h : ((¬ (M 64 5) = 0 → e_G X (d + 1) YX11_town 71 [some (.inr (.inr 64)), some (.inl p1)] [] (557, gn, e_RF, M) o) ∧ ((M 64 5) = 0 → (((M 64 2) ≤ (M 64 4) → e_G X (d + 1) YX11_town 71 [some (.inr (.inr 64)), some (.inl p1)] [] (557, gn, e_RF, M) o) ∧ (¬ ((M 64 2) ≤ (M 64 4)) → (∃ N5 : e_M, e_E X d YX11_clause [.inr (.inr 64)] (557, gn, e_RF, M) (.inl none, (557, gn, e_RF, N5)) ∧ (∃ N7 : e_M, e_E X d YX11_blanks [.inr (.inr 64)] (557, gn, e_RF, N5) (.inl none, (557, gn, e_RF, N7)) ∧ e_G X (d + 1) YX11_town 42 [some (.inr (.inr 64)), some (.inl p1)] [] (557, gn, e_RF, N7) o))))))) : e_G X (d + 1) YX11_town 42 [some (.inr (.inr 64)), some (.inl p1)] [] (557, gn, e_RF, M) o := by
  refine e_r_aload_n (pc' := 43) (by decide) dX11_town_42 rfl rfl rfl ?_
  refine e_r_geti (k := 5) (pc' := 46) cl_11 rfl (Nat.le_of_ble_eq_true rfl) rfl rfl fl_RX11_113 dX11_town_43 rfl ?_
  obtain ⟨ht1, hf2⟩ := h
  refine e_r_if_ne (tgt := 71) (pc' := 49) dX11_town_46 rfl rfl (fun c => ?_) (fun c => ?_)
  · have h := ht1 c
    exact h
  · have h := hf2 c
    refine e_r_aload_n (pc' := 50) (by decide) dX11_town_49 rfl rfl rfl ?_
    refine e_r_geti (k := 4) (pc' := 53) cl_11 rfl (Nat.le_of_ble_eq_true rfl) rfl rfl fl_RX11_106 dX11_town_50 rfl ?_
    refine e_r_aload_n (pc' := 54) (by decide) dX11_town_53 rfl rfl rfl ?_
    refine e_r_geti (k := 2) (pc' := 57) cl_11 rfl (Nat.le_of_ble_eq_true rfl) rfl rfl fl_RX11_103 dX11_town_54 rfl ?_
    obtain ⟨ht3, hf4⟩ := h
    refine e_r_icmp_ge (tgt := 71) (pc' := 60) dX11_town_57 rfl rfl (fun c => ?_) (fun c => ?_)
    · have h := ht3 c
      exact h
    · have h := hf4 c
      refine e_r_aload_n (pc' := 61) (by decide) dX11_town_60 rfl rfl rfl ?_
      obtain ⟨N5, he6, h⟩ := h
      refine e_r_callV (a := 64) (av := []) (st := []) mqYX11_clause ml_RX11_180 cl_11 rfl (Nat.le_of_ble_eq_true rfl) (by simp [e_cat]) rfl rfl rfl dX11_town_61 (pc' := 64) rfl he6 ⟨Nat.le_refl _, Nat.le_refl _⟩ hmo ?_
      refine e_r_aload_n (pc' := 65) (by decide) dX11_town_64 rfl rfl rfl ?_
      obtain ⟨N7, he8, h⟩ := h
      refine e_r_callV (a := 64) (av := []) (st := []) mqYX11_blanks ml_RX11_119 cl_11 rfl (Nat.le_of_ble_eq_true rfl) (by simp [e_cat]) rfl rfl rfl dX11_town_65 (pc' := 68) rfl he8 ⟨Nat.le_refl _, Nat.le_refl _⟩ hmo ?_
      refine e_r_goto (pc' := 42) dX11_town_68 rfl ?_
      exact h
theorem wp_X11_town_71 {X : e_X} {d gn : Nat} {o : e_O} (M : e_M) (p1 : Int) (hmo : e_mn (557, gn, e_RF, M) o.2) (h : (((M 64 5) = 0 → (∃ N3 : e_M, e_E X d YX11_beginsAnew [.inr (.inr 64)] (557, gn, e_RF, (e_up M 64 3 (-1))) (.inl none, (557, gn, e_RF, N3)) ∧ (o = (.inl (some (.inl (N3 68 0))), (557, gn, e_RF, N3))))) ∧ (¬ ((M 64 5) = 0) → (∃ (r6 : Int) (N5 : e_M), e_E X d YX11_ends [.inr (.inr 64)] (557, gn, e_RF, M) (.inl (some (.inl r6)), (557, gn, e_RF, N5)) ∧ (o = (.inl (some (.inl r6)), (557, gn, e_RF, N5))))))) : e_G X (d + 1) YX11_town 71 [some (.inr (.inr 64)), some (.inl p1)] [] (557, gn, e_RF, M) o := by
  refine e_r_aload_n (pc' := 72) (by decide) dX11_town_71 rfl rfl rfl ?_
  refine e_r_geti (k := 5) (pc' := 75) cl_11 rfl (Nat.le_of_ble_eq_true rfl) rfl rfl fl_RX11_113 dX11_town_72 rfl ?_
  obtain ⟨ht1, hf2⟩ := h
  refine e_r_if_eq (tgt := 83) (pc' := 78) dX11_town_75 rfl rfl (fun c => ?_) (fun c => ?_)
  · have h := ht1 c
    refine e_r_aload_n (pc' := 84) (by decide) dX11_town_83 rfl rfl rfl ?_
    refine e_r_iconst (pc' := 85) dX11_town_84 rfl (by decide) ?_
    refine e_r_puti (k := 3) (pc' := 88) cl_11 rfl (Nat.le_of_ble_eq_true rfl) rfl rfl fl_RX11_9 rfl (by decide +kernel) dX11_town_85 rfl ?_
    refine e_r_aload_n (pc' := 89) (by decide) dX11_town_88 rfl rfl rfl ?_
    obtain ⟨N3, he4, h⟩ := h
    refine e_r_callV (a := 64) (av := []) (st := []) mqYX11_beginsAnew ml_RX11_94 cl_11 rfl (Nat.le_of_ble_eq_true rfl) (by simp [e_cat]) rfl rfl rfl dX11_town_89 (pc' := 92) rfl he4 ⟨Nat.le_refl _, Nat.le_refl _⟩ hmo ?_
    refine e_r_aload_n (pc' := 93) (by decide) dX11_town_92 rfl rfl rfl ?_
    refine e_r_getr (k := 12) (q := 68) (pc' := 96) cl_11 rfl (Nat.le_of_ble_eq_true rfl) rfl rfl fl_RX11_23 rfl (Nat.le_of_ble_eq_true rfl) dX11_town_93 rfl ?_
    refine e_r_iconst (pc' := 97) dX11_town_96 rfl (by decide) ?_
    refine e_r_iald (j9 := 0) (pc' := 98) rfl (Nat.le_of_ble_eq_true rfl) (by decide) (by decide) rfl dX11_town_97 rfl ?_
    exact e_r_iret (ty := .int) rfl (e_nI _) dX11_town_98 h
  · have h := hf2 c
    refine e_r_aload_n (pc' := 79) (by decide) dX11_town_78 rfl rfl rfl ?_
    obtain ⟨r6, N5, he7, h⟩ := h
    refine e_r_callV (a := 64) (av := []) (st := []) mqYX11_ends ml_RX11_183 cl_11 rfl (Nat.le_of_ble_eq_true rfl) (by simp [e_cat]) rfl rfl rfl dX11_town_79 (pc' := 82) rfl he7 ⟨Nat.le_refl _, Nat.le_refl _⟩ hmo ?_
    exact e_r_iret (ty := .int) rfl (e_nI _) dX11_town_82 h
theorem wp_X11_lays_m_person_0 {X : e_X} {d gn : Nat} {o : e_O} (M : e_M) (p2 : Int) (h : e_G X d YX11_lays 2 [some (.inr (.inr 73)), some (.inr (.inr 80)), some (.inl p2), some (.inl 0), none] [] (557, gn, e_RF, M) o) : e_G X d YX11_lays 0 [some (.inr (.inr 73)), some (.inr (.inr 80)), some (.inl p2), none, none] [] (557, gn, e_RF, M) o := by
  refine e_r_iconst (pc' := 1) dX11_lays_0 rfl (by decide) ?_
  refine e_r_istore_n (pc' := 2) (loc' := [some (.inr (.inr 73)), some (.inr (.inr 80)), some (.inl p2), some (.inl 0), none]) dX11_lays_1 rfl rfl rfl rfl rfl ?_
  exact h
theorem wp_X11_lays_m_person_2 {X : e_X} {d gn : Nat} {o : e_O} (M : e_M) (p2 v3 : Int) (h : ((p2 ≤ v3 → (o = (.inl none, (557, gn, e_RF, M)))) ∧ (¬ (p2 ≤ v3) → e_G X d YX11_lays 10 [some (.inr (.inr 73)), some (.inr (.inr 80)), some (.inl p2), some (.inl v3), some (.inl 0)] [] (557, gn, e_RF, M) o))) : e_G X d YX11_lays 2 [some (.inr (.inr 73)), some (.inr (.inr 80)), some (.inl p2), some (.inl v3), none] [] (557, gn, e_RF, M) o := by
  refine e_r_iload_n (pc' := 3) dX11_lays_2 rfl rfl rfl ?_
  refine e_r_iload_n (pc' := 4) dX11_lays_3 rfl rfl rfl ?_
  obtain ⟨ht1, hf2⟩ := h
  refine e_r_icmp_ge (tgt := 43) (pc' := 7) dX11_lays_4 rfl rfl (fun c => ?_) (fun c => ?_)
  · have h := ht1 c
    exact e_r_vret rfl dX11_lays_43 h
  · have h := hf2 c
    refine e_r_iconst (pc' := 8) dX11_lays_7 rfl (by decide) ?_
    refine e_r_istore (pc' := 10) (loc' := [some (.inr (.inr 73)), some (.inr (.inr 80)), some (.inl p2), some (.inl v3), some (.inl 0)]) dX11_lays_8 rfl rfl rfl rfl ?_
    exact h
theorem wp_X11_lays_m_person_10 {X : e_X} {d gn : Nat} {o : e_O} (M : e_M) (p2 v3 v4 : Int) (h : ((0 ≤ v3 ∧ v3 < 6) ∧ ((2 ≤ v4 → e_G X d YX11_lays 2 [some (.inr (.inr 73)), some (.inr (.inr 80)), some (.inl p2), some (.inl (e_w (v3 + 1))), none] [] (557, gn, e_RF, M) o) ∧ (¬ (2 ≤ v4) → ((0 ≤ v3 ∧ v3 < 6) ∧ ((0 ≤ v3 ∧ v3 < 6) ∧ ((0 ≤ v4 ∧ v4 < 2) ∧ ((0 ≤ v4 ∧ v4 < 2) ∧ e_G X d YX11_lays 10 [some (.inr (.inr 73)), some (.inr (.inr 80)), some (.inl p2), some (.inl v3), some (.inl (e_w (v4 + 1)))] [] (557, gn, e_RF, (e_up M (81 + v3.toNat) v4.toNat (M (74 + v3.toNat) v4.toNat))) o)))))))) : e_G X d YX11_lays 10 [some (.inr (.inr 73)), some (.inr (.inr 80)), some (.inl p2), some (.inl v3), some (.inl v4)] [] (557, gn, e_RF, M) o := by
  refine e_r_iload (pc' := 12) dX11_lays_10 rfl rfl ?_
  refine e_r_aload_n (pc' := 13) (by decide) dX11_lays_12 rfl rfl rfl ?_
  refine e_r_iload_n (pc' := 14) dX11_lays_13 rfl rfl rfl ?_
  obtain ⟨hb1, h⟩ := h
  refine e_r_aldr (q := (81 + v3.toNat)) (pc' := 15) rfl (Nat.le_of_ble_eq_true rfl) hb1.1 hb1.2 rfl (sh_80 hb1.1 hb1.2).2.1 dX11_lays_14 rfl ?_
  refine e_r_alen (pc' := 16) (sh_80 hb1.1 hb1.2).1 (sh_80 hb1.1 hb1.2).2.1 (by decide) dX11_lays_15 rfl ?_
  obtain ⟨ht2, hf3⟩ := h
  refine e_r_icmp_ge (tgt := 37) (pc' := 19) dX11_lays_16 rfl rfl (fun c => ?_) (fun c => ?_)
  · have h := ht2 c
    refine e_r_iinc (pc' := 40) (loc' := [some (.inr (.inr 73)), some (.inr (.inr 80)), some (.inl p2), some (.inl (e_w (v3 + 1))), some (.inl v4)]) dX11_lays_37 rfl rfl rfl rfl rfl ?_
    refine e_r_goto (pc' := 2) dX11_lays_40 rfl ?_
    exact e_forget (m := [true, true, true, true, false]) h rfl
  · have h := hf3 c
    refine e_r_aload_n (pc' := 20) (by decide) dX11_lays_19 rfl rfl rfl ?_
    refine e_r_iload_n (pc' := 21) dX11_lays_20 rfl rfl rfl ?_
    obtain ⟨hb4, h⟩ := h
    refine e_r_aldr (q := (81 + v3.toNat)) (pc' := 22) rfl (Nat.le_of_ble_eq_true rfl) hb4.1 hb4.2 rfl (sh_80 hb4.1 hb4.2).2.1 dX11_lays_21 rfl ?_
    refine e_r_iload (pc' := 24) dX11_lays_22 rfl rfl ?_
    refine e_r_aload_n (pc' := 25) (by decide) dX11_lays_24 rfl rfl rfl ?_
    refine e_r_iload_n (pc' := 26) dX11_lays_25 rfl rfl rfl ?_
    obtain ⟨hb5, h⟩ := h
    refine e_r_aldr (q := (74 + v3.toNat)) (pc' := 27) rfl (Nat.le_of_ble_eq_true rfl) hb5.1 hb5.2 rfl (sh_73 hb5.1 hb5.2).2.1 dX11_lays_26 rfl ?_
    refine e_r_iload (pc' := 29) dX11_lays_27 rfl rfl ?_
    obtain ⟨hb6, h⟩ := h
    refine e_r_iald (j9 := v4.toNat) (pc' := 30) (sh_73 hb5.1 hb5.2).1 (sh_73 hb5.1 hb5.2).2.1 hb6.1 hb6.2 rfl dX11_lays_29 rfl ?_
    obtain ⟨hb7, h⟩ := h
    refine e_r_iast (j9 := v4.toNat) (pc' := 31) (sh_80 hb4.1 hb4.2).1 (sh_80 hb4.1 hb4.2).2.1 hb7.1 hb7.2 rfl dX11_lays_30 rfl ?_
    refine e_r_iinc (pc' := 34) (loc' := [some (.inr (.inr 73)), some (.inr (.inr 80)), some (.inl p2), some (.inl v3), some (.inl (e_w (v4 + 1)))]) dX11_lays_31 rfl rfl rfl rfl rfl ?_
    refine e_r_goto (pc' := 10) dX11_lays_34 rfl ?_
    exact h
theorem wp_X11_lays_m_task_0 {X : e_X} {d gn : Nat} {o : e_O} (M : e_M) (p2 : Int) (h : e_G X d YX11_lays 2 [some (.inr (.inr 87)), some (.inr (.inr 100)), some (.inl p2), some (.inl 0), none] [] (557, gn, e_RF, M) o) : e_G X d YX11_lays 0 [some (.inr (.inr 87)), some (.inr (.inr 100)), some (.inl p2), none, none] [] (557, gn, e_RF, M) o := by
  refine e_r_iconst (pc' := 1) dX11_lays_0 rfl (by decide) ?_
  refine e_r_istore_n (pc' := 2) (loc' := [some (.inr (.inr 87)), some (.inr (.inr 100)), some (.inl p2), some (.inl 0), none]) dX11_lays_1 rfl rfl rfl rfl rfl ?_
  exact h
theorem wp_X11_lays_m_task_2 {X : e_X} {d gn : Nat} {o : e_O} (M : e_M) (p2 v3 : Int) (h : ((p2 ≤ v3 → (o = (.inl none, (557, gn, e_RF, M)))) ∧ (¬ (p2 ≤ v3) → e_G X d YX11_lays 10 [some (.inr (.inr 87)), some (.inr (.inr 100)), some (.inl p2), some (.inl v3), some (.inl 0)] [] (557, gn, e_RF, M) o))) : e_G X d YX11_lays 2 [some (.inr (.inr 87)), some (.inr (.inr 100)), some (.inl p2), some (.inl v3), none] [] (557, gn, e_RF, M) o := by
  refine e_r_iload_n (pc' := 3) dX11_lays_2 rfl rfl rfl ?_
  refine e_r_iload_n (pc' := 4) dX11_lays_3 rfl rfl rfl ?_
  obtain ⟨ht1, hf2⟩ := h
  refine e_r_icmp_ge (tgt := 43) (pc' := 7) dX11_lays_4 rfl rfl (fun c => ?_) (fun c => ?_)
  · have h := ht1 c
    exact e_r_vret rfl dX11_lays_43 h
  · have h := hf2 c
    refine e_r_iconst (pc' := 8) dX11_lays_7 rfl (by decide) ?_
    refine e_r_istore (pc' := 10) (loc' := [some (.inr (.inr 87)), some (.inr (.inr 100)), some (.inl p2), some (.inl v3), some (.inl 0)]) dX11_lays_8 rfl rfl rfl rfl ?_
    exact h
theorem wp_X11_lays_m_task_10 {X : e_X} {d gn : Nat} {o : e_O} (M : e_M) (p2 v3 v4 : Int) (h : ((0 ≤ v3 ∧ v3 < 12) ∧ ((3 ≤ v4 → e_G X d YX11_lays 2 [some (.inr (.inr 87)), some (.inr (.inr 100)), some (.inl p2), some (.inl (e_w (v3 + 1))), none] [] (557, gn, e_RF, M) o) ∧ (¬ (3 ≤ v4) → ((0 ≤ v3 ∧ v3 < 12) ∧ ((0 ≤ v3 ∧ v3 < 12) ∧ ((0 ≤ v4 ∧ v4 < 3) ∧ ((0 ≤ v4 ∧ v4 < 3) ∧ e_G X d YX11_lays 10 [some (.inr (.inr 87)), some (.inr (.inr 100)), some (.inl p2), some (.inl v3), some (.inl (e_w (v4 + 1)))] [] (557, gn, e_RF, (e_up M (101 + v3.toNat) v4.toNat (M (88 + v3.toNat) v4.toNat))) o)))))))) : e_G X d YX11_lays 10 [some (.inr (.inr 87)), some (.inr (.inr 100)), some (.inl p2), some (.inl v3), some (.inl v4)] [] (557, gn, e_RF, M) o := by
  refine e_r_iload (pc' := 12) dX11_lays_10 rfl rfl ?_
  refine e_r_aload_n (pc' := 13) (by decide) dX11_lays_12 rfl rfl rfl ?_
  refine e_r_iload_n (pc' := 14) dX11_lays_13 rfl rfl rfl ?_
  obtain ⟨hb1, h⟩ := h
  refine e_r_aldr (q := (101 + v3.toNat)) (pc' := 15) rfl (Nat.le_of_ble_eq_true rfl) hb1.1 hb1.2 rfl (sh_100 hb1.1 hb1.2).2.1 dX11_lays_14 rfl ?_
  refine e_r_alen (pc' := 16) (sh_100 hb1.1 hb1.2).1 (sh_100 hb1.1 hb1.2).2.1 (by decide) dX11_lays_15 rfl ?_
  obtain ⟨ht2, hf3⟩ := h
  refine e_r_icmp_ge (tgt := 37) (pc' := 19) dX11_lays_16 rfl rfl (fun c => ?_) (fun c => ?_)
  · have h := ht2 c
    refine e_r_iinc (pc' := 40) (loc' := [some (.inr (.inr 87)), some (.inr (.inr 100)), some (.inl p2), some (.inl (e_w (v3 + 1))), some (.inl v4)]) dX11_lays_37 rfl rfl rfl rfl rfl ?_
    refine e_r_goto (pc' := 2) dX11_lays_40 rfl ?_
    exact e_forget (m := [true, true, true, true, false]) h rfl
  · have h := hf3 c
    refine e_r_aload_n (pc' := 20) (by decide) dX11_lays_19 rfl rfl rfl ?_
    refine e_r_iload_n (pc' := 21) dX11_lays_20 rfl rfl rfl ?_
    obtain ⟨hb4, h⟩ := h
    refine e_r_aldr (q := (101 + v3.toNat)) (pc' := 22) rfl (Nat.le_of_ble_eq_true rfl) hb4.1 hb4.2 rfl (sh_100 hb4.1 hb4.2).2.1 dX11_lays_21 rfl ?_
    refine e_r_iload (pc' := 24) dX11_lays_22 rfl rfl ?_
    refine e_r_aload_n (pc' := 25) (by decide) dX11_lays_24 rfl rfl rfl ?_
    refine e_r_iload_n (pc' := 26) dX11_lays_25 rfl rfl rfl ?_
    obtain ⟨hb5, h⟩ := h
    refine e_r_aldr (q := (88 + v3.toNat)) (pc' := 27) rfl (Nat.le_of_ble_eq_true rfl) hb5.1 hb5.2 rfl (sh_87 hb5.1 hb5.2).2.1 dX11_lays_26 rfl ?_
    refine e_r_iload (pc' := 29) dX11_lays_27 rfl rfl ?_
    obtain ⟨hb6, h⟩ := h
    refine e_r_iald (j9 := v4.toNat) (pc' := 30) (sh_87 hb5.1 hb5.2).1 (sh_87 hb5.1 hb5.2).2.1 hb6.1 hb6.2 rfl dX11_lays_29 rfl ?_
    obtain ⟨hb7, h⟩ := h
    refine e_r_iast (j9 := v4.toNat) (pc' := 31) (sh_100 hb4.1 hb4.2).1 (sh_100 hb4.1 hb4.2).2.1 hb7.1 hb7.2 rfl dX11_lays_30 rfl ?_
    refine e_r_iinc (pc' := 34) (loc' := [some (.inr (.inr 87)), some (.inr (.inr 100)), some (.inl p2), some (.inl v3), some (.inl (e_w (v4 + 1)))]) dX11_lays_31 rfl rfl rfl rfl rfl ?_
    refine e_r_goto (pc' := 10) dX11_lays_34 rfl ?_
    exact h
theorem wp_X11_lays_m_law_0 {X : e_X} {d gn : Nat} {o : e_O} (M : e_M) (p2 : Int) (h : e_G X d YX11_lays 2 [some (.inr (.inr 274)), some (.inr (.inr 113)), some (.inl p2), some (.inl 0), none] [] (557, gn, e_RF, M) o) : e_G X d YX11_lays 0 [some (.inr (.inr 274)), some (.inr (.inr 113)), some (.inl p2), none, none] [] (557, gn, e_RF, M) o := by
  refine e_r_iconst (pc' := 1) dX11_lays_0 rfl (by decide) ?_
  refine e_r_istore_n (pc' := 2) (loc' := [some (.inr (.inr 274)), some (.inr (.inr 113)), some (.inl p2), some (.inl 0), none]) dX11_lays_1 rfl rfl rfl rfl rfl ?_
  exact h
theorem wp_X11_lays_m_law_2 {X : e_X} {d gn : Nat} {o : e_O} (M : e_M) (p2 v3 : Int) (h : ((p2 ≤ v3 → (o = (.inl none, (557, gn, e_RF, M)))) ∧ (¬ (p2 ≤ v3) → e_G X d YX11_lays 10 [some (.inr (.inr 274)), some (.inr (.inr 113)), some (.inl p2), some (.inl v3), some (.inl 0)] [] (557, gn, e_RF, M) o))) : e_G X d YX11_lays 2 [some (.inr (.inr 274)), some (.inr (.inr 113)), some (.inl p2), some (.inl v3), none] [] (557, gn, e_RF, M) o := by
  refine e_r_iload_n (pc' := 3) dX11_lays_2 rfl rfl rfl ?_
  refine e_r_iload_n (pc' := 4) dX11_lays_3 rfl rfl rfl ?_
  obtain ⟨ht1, hf2⟩ := h
  refine e_r_icmp_ge (tgt := 43) (pc' := 7) dX11_lays_4 rfl rfl (fun c => ?_) (fun c => ?_)
  · have h := ht1 c
    exact e_r_vret rfl dX11_lays_43 h
  · have h := hf2 c
    refine e_r_iconst (pc' := 8) dX11_lays_7 rfl (by decide) ?_
    refine e_r_istore (pc' := 10) (loc' := [some (.inr (.inr 274)), some (.inr (.inr 113)), some (.inl p2), some (.inl v3), some (.inl 0)]) dX11_lays_8 rfl rfl rfl rfl ?_
    exact h
theorem wp_X11_lays_m_law_10 {X : e_X} {d gn : Nat} {o : e_O} (M : e_M) (p2 v3 v4 : Int) (h : ((0 ≤ v3 ∧ v3 < 160) ∧ ((2 ≤ v4 → e_G X d YX11_lays 2 [some (.inr (.inr 274)), some (.inr (.inr 113)), some (.inl p2), some (.inl (e_w (v3 + 1))), none] [] (557, gn, e_RF, M) o) ∧ (¬ (2 ≤ v4) → ((0 ≤ v3 ∧ v3 < 160) ∧ ((0 ≤ v3 ∧ v3 < 160) ∧ ((0 ≤ v4 ∧ v4 < 2) ∧ ((0 ≤ v4 ∧ v4 < 2) ∧ e_G X d YX11_lays 10 [some (.inr (.inr 274)), some (.inr (.inr 113)), some (.inl p2), some (.inl v3), some (.inl (e_w (v4 + 1)))] [] (557, gn, e_RF, (e_up M (114 + v3.toNat) v4.toNat (M (275 + v3.toNat) v4.toNat))) o)))))))) : e_G X d YX11_lays 10 [some (.inr (.inr 274)), some (.inr (.inr 113)), some (.inl p2), some (.inl v3), some (.inl v4)] [] (557, gn, e_RF, M) o := by
  refine e_r_iload (pc' := 12) dX11_lays_10 rfl rfl ?_
  refine e_r_aload_n (pc' := 13) (by decide) dX11_lays_12 rfl rfl rfl ?_
  refine e_r_iload_n (pc' := 14) dX11_lays_13 rfl rfl rfl ?_
  obtain ⟨hb1, h⟩ := h
  refine e_r_aldr (q := (114 + v3.toNat)) (pc' := 15) rfl (Nat.le_of_ble_eq_true rfl) hb1.1 hb1.2 rfl (sh_113 hb1.1 hb1.2).2.1 dX11_lays_14 rfl ?_
  refine e_r_alen (pc' := 16) (sh_113 hb1.1 hb1.2).1 (sh_113 hb1.1 hb1.2).2.1 (by decide) dX11_lays_15 rfl ?_
  obtain ⟨ht2, hf3⟩ := h
  refine e_r_icmp_ge (tgt := 37) (pc' := 19) dX11_lays_16 rfl rfl (fun c => ?_) (fun c => ?_)
  · have h := ht2 c
    refine e_r_iinc (pc' := 40) (loc' := [some (.inr (.inr 274)), some (.inr (.inr 113)), some (.inl p2), some (.inl (e_w (v3 + 1))), some (.inl v4)]) dX11_lays_37 rfl rfl rfl rfl rfl ?_
    refine e_r_goto (pc' := 2) dX11_lays_40 rfl ?_
    exact e_forget (m := [true, true, true, true, false]) h rfl
  · have h := hf3 c
    refine e_r_aload_n (pc' := 20) (by decide) dX11_lays_19 rfl rfl rfl ?_
    refine e_r_iload_n (pc' := 21) dX11_lays_20 rfl rfl rfl ?_
    obtain ⟨hb4, h⟩ := h
    refine e_r_aldr (q := (114 + v3.toNat)) (pc' := 22) rfl (Nat.le_of_ble_eq_true rfl) hb4.1 hb4.2 rfl (sh_113 hb4.1 hb4.2).2.1 dX11_lays_21 rfl ?_
    refine e_r_iload (pc' := 24) dX11_lays_22 rfl rfl ?_
    refine e_r_aload_n (pc' := 25) (by decide) dX11_lays_24 rfl rfl rfl ?_
    refine e_r_iload_n (pc' := 26) dX11_lays_25 rfl rfl rfl ?_
    obtain ⟨hb5, h⟩ := h
    refine e_r_aldr (q := (275 + v3.toNat)) (pc' := 27) rfl (Nat.le_of_ble_eq_true rfl) hb5.1 hb5.2 rfl (sh_274 hb5.1 hb5.2).2.1 dX11_lays_26 rfl ?_
    refine e_r_iload (pc' := 29) dX11_lays_27 rfl rfl ?_
    obtain ⟨hb6, h⟩ := h
    refine e_r_iald (j9 := v4.toNat) (pc' := 30) (sh_274 hb5.1 hb5.2).1 (sh_274 hb5.1 hb5.2).2.1 hb6.1 hb6.2 rfl dX11_lays_29 rfl ?_
    obtain ⟨hb7, h⟩ := h
    refine e_r_iast (j9 := v4.toNat) (pc' := 31) (sh_113 hb4.1 hb4.2).1 (sh_113 hb4.1 hb4.2).2.1 hb7.1 hb7.2 rfl dX11_lays_30 rfl ?_
    refine e_r_iinc (pc' := 34) (loc' := [some (.inr (.inr 274)), some (.inr (.inr 113)), some (.inl p2), some (.inl v3), some (.inl (e_w (v4 + 1)))]) dX11_lays_31 rfl rfl rfl rfl rfl ?_
    refine e_r_goto (pc' := 10) dX11_lays_34 rfl ?_
    exact h
theorem wp_X11_lays_m_line_0 {X : e_X} {d gn : Nat} {o : e_O} (M : e_M) (p2 : Int) (h : e_G X d YX11_lays 2 [some (.inr (.inr 442)), some (.inr (.inr 435)), some (.inl p2), some (.inl 0), none] [] (557, gn, e_RF, M) o) : e_G X d YX11_lays 0 [some (.inr (.inr 442)), some (.inr (.inr 435)), some (.inl p2), none, none] [] (557, gn, e_RF, M) o := by
  refine e_r_iconst (pc' := 1) dX11_lays_0 rfl (by decide) ?_
  refine e_r_istore_n (pc' := 2) (loc' := [some (.inr (.inr 442)), some (.inr (.inr 435)), some (.inl p2), some (.inl 0), none]) dX11_lays_1 rfl rfl rfl rfl rfl ?_
  exact h
theorem wp_X11_lays_m_line_2 {X : e_X} {d gn : Nat} {o : e_O} (M : e_M) (p2 v3 : Int) (h : ((p2 ≤ v3 → (o = (.inl none, (557, gn, e_RF, M)))) ∧ (¬ (p2 ≤ v3) → e_G X d YX11_lays 10 [some (.inr (.inr 442)), some (.inr (.inr 435)), some (.inl p2), some (.inl v3), some (.inl 0)] [] (557, gn, e_RF, M) o))) : e_G X d YX11_lays 2 [some (.inr (.inr 442)), some (.inr (.inr 435)), some (.inl p2), some (.inl v3), none] [] (557, gn, e_RF, M) o := by
  refine e_r_iload_n (pc' := 3) dX11_lays_2 rfl rfl rfl ?_
  refine e_r_iload_n (pc' := 4) dX11_lays_3 rfl rfl rfl ?_
  obtain ⟨ht1, hf2⟩ := h
  refine e_r_icmp_ge (tgt := 43) (pc' := 7) dX11_lays_4 rfl rfl (fun c => ?_) (fun c => ?_)
  · have h := ht1 c
    exact e_r_vret rfl dX11_lays_43 h
  · have h := hf2 c
    refine e_r_iconst (pc' := 8) dX11_lays_7 rfl (by decide) ?_
    refine e_r_istore (pc' := 10) (loc' := [some (.inr (.inr 442)), some (.inr (.inr 435)), some (.inl p2), some (.inl v3), some (.inl 0)]) dX11_lays_8 rfl rfl rfl rfl ?_
    exact h
theorem wp_X11_lays_m_line_10 {X : e_X} {d gn : Nat} {o : e_O} (M : e_M) (p2 v3 v4 : Int) (h : ((0 ≤ v3 ∧ v3 < 6) ∧ ((2 ≤ v4 → e_G X d YX11_lays 2 [some (.inr (.inr 442)), some (.inr (.inr 435)), some (.inl p2), some (.inl (e_w (v3 + 1))), none] [] (557, gn, e_RF, M) o) ∧ (¬ (2 ≤ v4) → ((0 ≤ v3 ∧ v3 < 6) ∧ ((0 ≤ v3 ∧ v3 < 6) ∧ ((0 ≤ v4 ∧ v4 < 2) ∧ ((0 ≤ v4 ∧ v4 < 2) ∧ e_G X d YX11_lays 10 [some (.inr (.inr 442)), some (.inr (.inr 435)), some (.inl p2), some (.inl v3), some (.inl (e_w (v4 + 1)))] [] (557, gn, e_RF, (e_up M (436 + v3.toNat) v4.toNat (M (443 + v3.toNat) v4.toNat))) o)))))))) : e_G X d YX11_lays 10 [some (.inr (.inr 442)), some (.inr (.inr 435)), some (.inl p2), some (.inl v3), some (.inl v4)] [] (557, gn, e_RF, M) o := by
  refine e_r_iload (pc' := 12) dX11_lays_10 rfl rfl ?_
  refine e_r_aload_n (pc' := 13) (by decide) dX11_lays_12 rfl rfl rfl ?_
  refine e_r_iload_n (pc' := 14) dX11_lays_13 rfl rfl rfl ?_
  obtain ⟨hb1, h⟩ := h
  refine e_r_aldr (q := (436 + v3.toNat)) (pc' := 15) rfl (Nat.le_of_ble_eq_true rfl) hb1.1 hb1.2 rfl (sh_435 hb1.1 hb1.2).2.1 dX11_lays_14 rfl ?_
  refine e_r_alen (pc' := 16) (sh_435 hb1.1 hb1.2).1 (sh_435 hb1.1 hb1.2).2.1 (by decide) dX11_lays_15 rfl ?_
  obtain ⟨ht2, hf3⟩ := h
  refine e_r_icmp_ge (tgt := 37) (pc' := 19) dX11_lays_16 rfl rfl (fun c => ?_) (fun c => ?_)
  · have h := ht2 c
    refine e_r_iinc (pc' := 40) (loc' := [some (.inr (.inr 442)), some (.inr (.inr 435)), some (.inl p2), some (.inl (e_w (v3 + 1))), some (.inl v4)]) dX11_lays_37 rfl rfl rfl rfl rfl ?_
    refine e_r_goto (pc' := 2) dX11_lays_40 rfl ?_
    exact e_forget (m := [true, true, true, true, false]) h rfl
  · have h := hf3 c
    refine e_r_aload_n (pc' := 20) (by decide) dX11_lays_19 rfl rfl rfl ?_
    refine e_r_iload_n (pc' := 21) dX11_lays_20 rfl rfl rfl ?_
    obtain ⟨hb4, h⟩ := h
    refine e_r_aldr (q := (436 + v3.toNat)) (pc' := 22) rfl (Nat.le_of_ble_eq_true rfl) hb4.1 hb4.2 rfl (sh_435 hb4.1 hb4.2).2.1 dX11_lays_21 rfl ?_
    refine e_r_iload (pc' := 24) dX11_lays_22 rfl rfl ?_
    refine e_r_aload_n (pc' := 25) (by decide) dX11_lays_24 rfl rfl rfl ?_
    refine e_r_iload_n (pc' := 26) dX11_lays_25 rfl rfl rfl ?_
    obtain ⟨hb5, h⟩ := h
    refine e_r_aldr (q := (443 + v3.toNat)) (pc' := 27) rfl (Nat.le_of_ble_eq_true rfl) hb5.1 hb5.2 rfl (sh_442 hb5.1 hb5.2).2.1 dX11_lays_26 rfl ?_
    refine e_r_iload (pc' := 29) dX11_lays_27 rfl rfl ?_
    obtain ⟨hb6, h⟩ := h
    refine e_r_iald (j9 := v4.toNat) (pc' := 30) (sh_442 hb5.1 hb5.2).1 (sh_442 hb5.1 hb5.2).2.1 hb6.1 hb6.2 rfl dX11_lays_29 rfl ?_
    obtain ⟨hb7, h⟩ := h
    refine e_r_iast (j9 := v4.toNat) (pc' := 31) (sh_435 hb4.1 hb4.2).1 (sh_435 hb4.1 hb4.2).2.1 hb7.1 hb7.2 rfl dX11_lays_30 rfl ?_
    refine e_r_iinc (pc' := 34) (loc' := [some (.inr (.inr 442)), some (.inr (.inr 435)), some (.inl p2), some (.inl v3), some (.inl (e_w (v4 + 1)))]) dX11_lays_31 rfl rfl rfl rfl rfl ?_
    refine e_r_goto (pc' := 10) dX11_lays_34 rfl ?_
    exact h
theorem wp_X11_copies_0 {X : e_X} {d gn : Nat} {o : e_O} {q0 : Nat} (hq0 : e_SH q0 = (20, 56)) (kq0 : q0 ≤ 557) (zq0 : q0 ≠ 0) {q1 : Nat} (hq1 : e_SH q1 = (20, 56)) (kq1 : q1 ≤ 557) (zq1 : q1 ≠ 0) (M : e_M) (h : e_G X d YX11_copies 2 [some (.inr (.inr q0)), some (.inr (.inr q1)), some (.inl 0)] [] (557, gn, e_RF, M) o) : e_G X d YX11_copies 0 [some (.inr (.inr q0)), some (.inr (.inr q1)), none] [] (557, gn, e_RF, M) o := by
  refine e_r_iconst (pc' := 1) dX11_copies_0 rfl (by decide) ?_
  refine e_r_istore_n (pc' := 2) (loc' := [some (.inr (.inr q0)), some (.inr (.inr q1)), some (.inl 0)]) dX11_copies_1 rfl rfl rfl rfl rfl ?_
  exact h
theorem wp_X11_copies_2 {X : e_X} {d gn : Nat} {o : e_O} {q0 : Nat} (hq0 : e_SH q0 = (20, 56)) (kq0 : q0 ≤ 557) (zq0 : q0 ≠ 0) {q1 : Nat} (hq1 : e_SH q1 = (20, 56)) (kq1 : q1 ≤ 557) (zq1 : q1 ≠ 0) (M : e_M) (v2 : Int) (h : ((56 ≤ v2 → (o = (.inl none, (557, gn, e_RF, M)))) ∧ (¬ (56 ≤ v2) → ((0 ≤ v2 ∧ v2 < 56) ∧ ((0 ≤ v2 ∧ v2 < 56) ∧ e_G X d YX11_copies 2 [some (.inr (.inr q0)), some (.inr (.inr q1)), some (.inl (e_w (v2 + 1)))] [] (557, gn, e_RF, (e_up M q1 v2.toNat (M q0 v2.toNat))) o))))) : e_G X d YX11_copies 2 [some (.inr (.inr q0)), some (.inr (.inr q1)), some (.inl v2)] [] (557, gn, e_RF, M) o := by
  refine e_r_iload_n (pc' := 3) dX11_copies_2 rfl rfl rfl ?_
  refine e_r_bipush (pc' := 5) dX11_copies_3 rfl (by decide) ?_
  obtain ⟨ht1, hf2⟩ := h
  refine e_r_icmp_ge (tgt := 20) (pc' := 8) dX11_copies_5 rfl rfl (fun c => ?_) (fun c => ?_)
  · have h := ht1 c
    exact e_r_vret rfl dX11_copies_20 h
  · have h := hf2 c
    refine e_r_aload_n (pc' := 9) zq1 dX11_copies_8 rfl rfl rfl ?_
    refine e_r_iload_n (pc' := 10) dX11_copies_9 rfl rfl rfl ?_
    refine e_r_aload_n (pc' := 11) zq0 dX11_copies_10 rfl rfl rfl ?_
    refine e_r_iload_n (pc' := 12) dX11_copies_11 rfl rfl rfl ?_
    obtain ⟨hb3, h⟩ := h
    refine e_r_iald (j9 := v2.toNat) (pc' := 13) hq0 kq0 hb3.1 hb3.2 rfl dX11_copies_12 rfl ?_
    obtain ⟨hb4, h⟩ := h
    refine e_r_iast (j9 := v2.toNat) (pc' := 14) hq1 kq1 hb4.1 hb4.2 rfl dX11_copies_13 rfl ?_
    refine e_r_iinc (pc' := 17) (loc' := [some (.inr (.inr q0)), some (.inr (.inr q1)), some (.inl (e_w (v2 + 1)))]) dX11_copies_14 rfl rfl rfl rfl rfl ?_
    refine e_r_goto (pc' := 2) dX11_copies_17 rfl ?_
    exact h
theorem wp_X11_beginsAnew_0 {X : e_X} {d gn : Nat} {o : e_O} (M : e_M) (h : e_G X (d + 1) YX11_beginsAnew 2 [some (.inr (.inr 64)), some (.inl 0)] [] (557, gn, e_RF, M) o) : e_G X (d + 1) YX11_beginsAnew 0 [some (.inr (.inr 64)), none] [] (557, gn, e_RF, M) o := by
  refine e_r_iconst (pc' := 1) dX11_beginsAnew_0 rfl (by decide) ?_
  refine e_r_istore_n (pc' := 2) (loc' := [some (.inr (.inr 64)), some (.inl 0)]) dX11_beginsAnew_1 rfl rfl rfl rfl rfl ?_
  exact h
theorem wp_X11_beginsAnew_2 {X : e_X} {d gn : Nat} {o : e_O} (M : e_M) (v1 : Int) (hmo : e_mn (557, gn, e_RF, M) o.2) (h : ((3 ≤ v1 → (∃ N3 : e_M, e_E X d YX11_lays [.inr (.inr 73), .inr (.inr 80), .inl (M 68 0)] (557, gn, e_RF, M) (.inl none, (557, gn, e_RF, N3)) ∧ (∃ N5 : e_M, e_E X d YX11_lays [.inr (.inr 87), .inr (.inr 100), .inl (N3 68 2)] (557, gn, e_RF, N3) (.inl none, (557, gn, e_RF, N5)) ∧ e_G X (d + 1) YX11_beginsAnew 61 [some (.inr (.inr 64)), some (.inl 0)] [] (557, gn, e_RF, N5) o))) ∧ (¬ (3 ≤ v1) → ((0 ≤ v1 ∧ v1 < 3) ∧ ((0 ≤ v1 ∧ v1 < 3) ∧ e_G X (d + 1) YX11_beginsAnew 2 [some (.inr (.inr 64)), some (.inl (e_w (v1 + 1)))] [] (557, gn, e_RF, (e_up M 68 v1.toNat (M 67 v1.toNat))) o))))) : e_G X (d + 1) YX11_beginsAnew 2 [some (.inr (.inr 64)), some (.inl v1)] [] (557, gn, e_RF, M) o := by
  refine e_r_iload_n (pc' := 3) dX11_beginsAnew_2 rfl rfl rfl ?_
  refine e_r_iconst (pc' := 4) dX11_beginsAnew_3 rfl (by decide) ?_
  obtain ⟨ht1, hf2⟩ := h
  refine e_r_icmp_ge (tgt := 25) (pc' := 7) dX11_beginsAnew_4 rfl rfl (fun c => ?_) (fun c => ?_)
  · have h := ht1 c
    refine e_r_aload_n (pc' := 26) (by decide) dX11_beginsAnew_25 rfl rfl rfl ?_
    refine e_r_getr (k := 17) (q := 73) (pc' := 29) cl_11 rfl (Nat.le_of_ble_eq_true rfl) rfl rfl fl_RX11_40 rfl (Nat.le_of_ble_eq_true rfl) dX11_beginsAnew_26 rfl ?_
    refine e_r_aload_n (pc' := 30) (by decide) dX11_beginsAnew_29 rfl rfl rfl ?_
    refine e_r_getr (k := 18) (q := 80) (pc' := 33) cl_11 rfl (Nat.le_of_ble_eq_true rfl) rfl rfl fl_RX11_43 rfl (Nat.le_of_ble_eq_true rfl) dX11_beginsAnew_30 rfl ?_
    refine e_r_aload_n (pc' := 34) (by decide) dX11_beginsAnew_33 rfl rfl rfl ?_
    refine e_r_getr (k := 12) (q := 68) (pc' := 37) cl_11 rfl (Nat.le_of_ble_eq_true rfl) rfl rfl fl_RX11_23 rfl (Nat.le_of_ble_eq_true rfl) dX11_beginsAnew_34 rfl ?_
    refine e_r_iconst (pc' := 38) dX11_beginsAnew_37 rfl (by decide) ?_
    refine e_r_iald (j9 := 0) (pc' := 39) rfl (Nat.le_of_ble_eq_true rfl) (by decide) (by decide) rfl dX11_beginsAnew_38 rfl ?_
    obtain ⟨N3, he4, h⟩ := h
    refine e_r_callS (av := [.inr (.inr 73), .inr (.inr 80), .inl (M 68 0)]) (st := []) mqYX11_lays ml_RX11_186 (by simp [e_cat]) rfl rfl rfl dX11_beginsAnew_39 (pc' := 42) rfl he4 ⟨Nat.le_refl _, Nat.le_refl _⟩ hmo ?_
    refine e_r_aload_n (pc' := 43) (by decide) dX11_beginsAnew_42 rfl rfl rfl ?_
    refine e_r_getr (k := 19) (q := 87) (pc' := 46) cl_11 rfl (Nat.le_of_ble_eq_true rfl) rfl rfl fl_RX11_46 rfl (Nat.le_of_ble_eq_true rfl) dX11_beginsAnew_43 rfl ?_
    refine e_r_aload_n (pc' := 47) (by decide) dX11_beginsAnew_46 rfl rfl rfl ?_
    refine e_r_getr (k := 20) (q := 100) (pc' := 50) cl_11 rfl (Nat.le_of_ble_eq_true rfl) rfl rfl fl_RX11_49 rfl (Nat.le_of_ble_eq_true rfl) dX11_beginsAnew_47 rfl ?_
    refine e_r_aload_n (pc' := 51) (by decide) dX11_beginsAnew_50 rfl rfl rfl ?_
    refine e_r_getr (k := 12) (q := 68) (pc' := 54) cl_11 rfl (Nat.le_of_ble_eq_true rfl) rfl rfl fl_RX11_23 rfl (Nat.le_of_ble_eq_true rfl) dX11_beginsAnew_51 rfl ?_
    refine e_r_iconst (pc' := 55) dX11_beginsAnew_54 rfl (by decide) ?_
    refine e_r_iald (j9 := 2) (pc' := 56) rfl (Nat.le_of_ble_eq_true rfl) (by decide) (by decide) rfl dX11_beginsAnew_55 rfl ?_
    obtain ⟨N5, he6, h⟩ := h
    refine e_r_callS (av := [.inr (.inr 87), .inr (.inr 100), .inl (N3 68 2)]) (st := []) mqYX11_lays ml_RX11_186 (by simp [e_cat]) rfl rfl rfl dX11_beginsAnew_56 (pc' := 59) rfl he6 ⟨Nat.le_refl _, Nat.le_refl _⟩ hmo ?_
    refine e_r_iconst (pc' := 60) dX11_beginsAnew_59 rfl (by decide) ?_
    refine e_r_istore_n (pc' := 61) (loc' := [some (.inr (.inr 64)), some (.inl 0)]) dX11_beginsAnew_60 rfl rfl rfl rfl rfl ?_
    exact h
  · have h := hf2 c
    refine e_r_aload_n (pc' := 8) (by decide) dX11_beginsAnew_7 rfl rfl rfl ?_
    refine e_r_getr (k := 12) (q := 68) (pc' := 11) cl_11 rfl (Nat.le_of_ble_eq_true rfl) rfl rfl fl_RX11_23 rfl (Nat.le_of_ble_eq_true rfl) dX11_beginsAnew_8 rfl ?_
    refine e_r_iload_n (pc' := 12) dX11_beginsAnew_11 rfl rfl rfl ?_
    refine e_r_aload_n (pc' := 13) (by decide) dX11_beginsAnew_12 rfl rfl rfl ?_
    refine e_r_getr (k := 11) (q := 67) (pc' := 16) cl_11 rfl (Nat.le_of_ble_eq_true rfl) rfl rfl fl_RX11_20 rfl (Nat.le_of_ble_eq_true rfl) dX11_beginsAnew_13 rfl ?_
    refine e_r_iload_n (pc' := 17) dX11_beginsAnew_16 rfl rfl rfl ?_
    obtain ⟨hb7, h⟩ := h
    refine e_r_iald (j9 := v1.toNat) (pc' := 18) rfl (Nat.le_of_ble_eq_true rfl) hb7.1 hb7.2 rfl dX11_beginsAnew_17 rfl ?_
    obtain ⟨hb8, h⟩ := h
    refine e_r_iast (j9 := v1.toNat) (pc' := 19) rfl (Nat.le_of_ble_eq_true rfl) hb8.1 hb8.2 rfl dX11_beginsAnew_18 rfl ?_
    refine e_r_iinc (pc' := 22) (loc' := [some (.inr (.inr 64)), some (.inl (e_w (v1 + 1)))]) dX11_beginsAnew_19 rfl rfl rfl rfl rfl ?_
    refine e_r_goto (pc' := 2) dX11_beginsAnew_22 rfl ?_
    exact h
theorem wp_X11_beginsAnew_61 {X : e_X} {d gn : Nat} {o : e_O} (M : e_M) (v1 : Int) (h : ((6 ≤ v1 → e_G X (d + 1) YX11_beginsAnew 87 [some (.inr (.inr 64)), some (.inl 0)] [] (557, gn, e_RF, M) o) ∧ (¬ (6 ≤ v1) → ((0 ≤ v1 ∧ v1 < 6) ∧ ((0 ≤ v1 ∧ v1 < 6) ∧ e_G X (d + 1) YX11_beginsAnew 61 [some (.inr (.inr 64)), some (.inl (e_w (v1 + 1)))] [] (557, gn, e_RF, (e_up M 70 v1.toNat (M 69 v1.toNat))) o))))) : e_G X (d + 1) YX11_beginsAnew 61 [some (.inr (.inr 64)), some (.inl v1)] [] (557, gn, e_RF, M) o := by
  refine e_r_iload_n (pc' := 62) dX11_beginsAnew_61 rfl rfl rfl ?_
  refine e_r_bipush (pc' := 64) dX11_beginsAnew_62 rfl (by decide) ?_
  obtain ⟨ht1, hf2⟩ := h
  refine e_r_icmp_ge (tgt := 85) (pc' := 67) dX11_beginsAnew_64 rfl rfl (fun c => ?_) (fun c => ?_)
  · have h := ht1 c
    refine e_r_iconst (pc' := 86) dX11_beginsAnew_85 rfl (by decide) ?_
    refine e_r_istore_n (pc' := 87) (loc' := [some (.inr (.inr 64)), some (.inl 0)]) dX11_beginsAnew_86 rfl rfl rfl rfl rfl ?_
    exact h
  · have h := hf2 c
    refine e_r_aload_n (pc' := 68) (by decide) dX11_beginsAnew_67 rfl rfl rfl ?_
    refine e_r_getr (k := 14) (q := 70) (pc' := 71) cl_11 rfl (Nat.le_of_ble_eq_true rfl) rfl rfl fl_RX11_29 rfl (Nat.le_of_ble_eq_true rfl) dX11_beginsAnew_68 rfl ?_
    refine e_r_iload_n (pc' := 72) dX11_beginsAnew_71 rfl rfl rfl ?_
    refine e_r_aload_n (pc' := 73) (by decide) dX11_beginsAnew_72 rfl rfl rfl ?_
    refine e_r_getr (k := 13) (q := 69) (pc' := 76) cl_11 rfl (Nat.le_of_ble_eq_true rfl) rfl rfl fl_RX11_26 rfl (Nat.le_of_ble_eq_true rfl) dX11_beginsAnew_73 rfl ?_
    refine e_r_iload_n (pc' := 77) dX11_beginsAnew_76 rfl rfl rfl ?_
    obtain ⟨hb3, h⟩ := h
    refine e_r_iald (j9 := v1.toNat) (pc' := 78) rfl (Nat.le_of_ble_eq_true rfl) hb3.1 hb3.2 rfl dX11_beginsAnew_77 rfl ?_
    obtain ⟨hb4, h⟩ := h
    refine e_r_iast (j9 := v1.toNat) (pc' := 79) rfl (Nat.le_of_ble_eq_true rfl) hb4.1 hb4.2 rfl dX11_beginsAnew_78 rfl ?_
    refine e_r_iinc (pc' := 82) (loc' := [some (.inr (.inr 64)), some (.inl (e_w (v1 + 1)))]) dX11_beginsAnew_79 rfl rfl rfl rfl rfl ?_
    refine e_r_goto (pc' := 61) dX11_beginsAnew_82 rfl ?_
    exact h
theorem wp_X11_beginsAnew_87 {X : e_X} {d gn : Nat} {o : e_O} (M : e_M) (v1 : Int) (h : ((56 ≤ v1 → e_G X (d + 1) YX11_beginsAnew 108 [some (.inr (.inr 64)), some (.inl 0)] [] (557, gn, e_RF, M) o) ∧ (¬ (56 ≤ v1) → ((0 ≤ v1 ∧ v1 < 56) ∧ e_G X (d + 1) YX11_beginsAnew 87 [some (.inr (.inr 64)), some (.inl (e_w (v1 + 1)))] [] (557, gn, e_RF, (e_up M 532 v1.toNat 0)) o)))) : e_G X (d + 1) YX11_beginsAnew 87 [some (.inr (.inr 64)), some (.inl v1)] [] (557, gn, e_RF, M) o := by
  refine e_r_iload_n (pc' := 88) dX11_beginsAnew_87 rfl rfl rfl ?_
  refine e_r_bipush (pc' := 90) dX11_beginsAnew_88 rfl (by decide) ?_
  obtain ⟨ht1, hf2⟩ := h
  refine e_r_icmp_ge (tgt := 106) (pc' := 93) dX11_beginsAnew_90 rfl rfl (fun c => ?_) (fun c => ?_)
  · have h := ht1 c
    refine e_r_iconst (pc' := 107) dX11_beginsAnew_106 rfl (by decide) ?_
    refine e_r_istore_n (pc' := 108) (loc' := [some (.inr (.inr 64)), some (.inl 0)]) dX11_beginsAnew_107 rfl rfl rfl rfl rfl ?_
    exact h
  · have h := hf2 c
    refine e_r_aload_n (pc' := 94) (by decide) dX11_beginsAnew_93 rfl rfl rfl ?_
    refine e_r_getr (k := 31) (q := 532) (pc' := 97) cl_11 rfl (Nat.le_of_ble_eq_true rfl) rfl rfl fl_RX11_73 rfl (Nat.le_of_ble_eq_true rfl) dX11_beginsAnew_94 rfl ?_
    refine e_r_iload_n (pc' := 98) dX11_beginsAnew_97 rfl rfl rfl ?_
    refine e_r_iconst (pc' := 99) dX11_beginsAnew_98 rfl (by decide) ?_
    obtain ⟨hb3, h⟩ := h
    refine e_r_iast (j9 := v1.toNat) (pc' := 100) rfl (Nat.le_of_ble_eq_true rfl) hb3.1 hb3.2 rfl dX11_beginsAnew_99 rfl ?_
    refine e_r_iinc (pc' := 103) (loc' := [some (.inr (.inr 64)), some (.inl (e_w (v1 + 1)))]) dX11_beginsAnew_100 rfl rfl rfl rfl rfl ?_
    refine e_r_goto (pc' := 87) dX11_beginsAnew_103 rfl ?_
    exact h
theorem wp_X11_beginsAnew_108 {X : e_X} {d gn : Nat} {o : e_O} (M : e_M) (v1 : Int) (h : ((6 ≤ v1 → e_G X (d + 1) YX11_beginsAnew 188 [some (.inr (.inr 64)), some (.inl 0)] [] (557, gn, e_RF, M) o) ∧ (¬ (6 ≤ v1) → (((M 68 0) ≤ v1 → e_G X (d + 1) YX11_beginsAnew 139 [some (.inr (.inr 64)), some (.inl v1)] [.inl 0, .inl v1, .inr (.inr 72)] (557, gn, e_RF, M) o) ∧ (¬ ((M 68 0) ≤ v1) → ((0 ≤ v1 ∧ v1 < 6) ∧ e_G X (d + 1) YX11_beginsAnew 139 [some (.inr (.inr 64)), some (.inl v1)] [.inl (M 71 v1.toNat), .inl v1, .inr (.inr 72)] (557, gn, e_RF, M) o)))))) : e_G X (d + 1) YX11_beginsAnew 108 [some (.inr (.inr 64)), some (.inl v1)] [] (557, gn, e_RF, M) o := by
  refine e_r_iload_n (pc' := 109) dX11_beginsAnew_108 rfl rfl rfl ?_
  refine e_r_bipush (pc' := 111) dX11_beginsAnew_109 rfl (by decide) ?_
  obtain ⟨ht1, hf2⟩ := h
  refine e_r_icmp_ge (tgt := 186) (pc' := 114) dX11_beginsAnew_111 rfl rfl (fun c => ?_) (fun c => ?_)
  · have h := ht1 c
    refine e_r_iconst (pc' := 187) dX11_beginsAnew_186 rfl (by decide) ?_
    refine e_r_istore_n (pc' := 188) (loc' := [some (.inr (.inr 64)), some (.inl 0)]) dX11_beginsAnew_187 rfl rfl rfl rfl rfl ?_
    exact h
  · have h := hf2 c
    refine e_r_aload_n (pc' := 115) (by decide) dX11_beginsAnew_114 rfl rfl rfl ?_
    refine e_r_getr (k := 16) (q := 72) (pc' := 118) cl_11 rfl (Nat.le_of_ble_eq_true rfl) rfl rfl fl_RX11_35 rfl (Nat.le_of_ble_eq_true rfl) dX11_beginsAnew_115 rfl ?_
    refine e_r_iload_n (pc' := 119) dX11_beginsAnew_118 rfl rfl rfl ?_
    refine e_r_iload_n (pc' := 120) dX11_beginsAnew_119 rfl rfl rfl ?_
    refine e_r_aload_n (pc' := 121) (by decide) dX11_beginsAnew_120 rfl rfl rfl ?_
    refine e_r_getr (k := 12) (q := 68) (pc' := 124) cl_11 rfl (Nat.le_of_ble_eq_true rfl) rfl rfl fl_RX11_23 rfl (Nat.le_of_ble_eq_true rfl) dX11_beginsAnew_121 rfl ?_
    refine e_r_iconst (pc' := 125) dX11_beginsAnew_124 rfl (by decide) ?_
    refine e_r_iald (j9 := 0) (pc' := 126) rfl (Nat.le_of_ble_eq_true rfl) (by decide) (by decide) rfl dX11_beginsAnew_125 rfl ?_
    obtain ⟨ht3, hf4⟩ := h
    refine e_r_icmp_ge (tgt := 138) (pc' := 129) dX11_beginsAnew_126 rfl rfl (fun c => ?_) (fun c => ?_)
    · have h := ht3 c
      refine e_r_iconst (pc' := 139) dX11_beginsAnew_138 rfl (by decide) ?_
      exact h
    · have h := hf4 c
      refine e_r_aload_n (pc' := 130) (by decide) dX11_beginsAnew_129 rfl rfl rfl ?_
      refine e_r_getr (k := 15) (q := 71) (pc' := 133) cl_11 rfl (Nat.le_of_ble_eq_true rfl) rfl rfl fl_RX11_32 rfl (Nat.le_of_ble_eq_true rfl) dX11_beginsAnew_130 rfl ?_
      refine e_r_iload_n (pc' := 134) dX11_beginsAnew_133 rfl rfl rfl ?_
      obtain ⟨hb5, h⟩ := h
      refine e_r_iald (j9 := v1.toNat) (pc' := 135) rfl (Nat.le_of_ble_eq_true rfl) hb5.1 hb5.2 rfl dX11_beginsAnew_134 rfl ?_
      refine e_r_goto (pc' := 139) dX11_beginsAnew_135 rfl ?_
      exact h
theorem wp_X11_beginsAnew_139 {X : e_X} {d gn : Nat} {o : e_O} (M : e_M) (v1 w0 w1 : Int) (h : ((0 ≤ w1 ∧ w1 < 6) ∧ ((((e_up M 72 w1.toNat w0) 68 0) ≤ v1 → e_G X (d + 1) YX11_beginsAnew 169 [some (.inr (.inr 64)), some (.inl v1)] [.inl 0, .inl (e_w (0 + v1)), .inr (.inr 532)] (557, gn, e_RF, (e_up M 72 w1.toNat w0)) o) ∧ (¬ (((e_up M 72 w1.toNat w0) 68 0) ≤ v1) → ((0 ≤ v1 ∧ v1 < 6) ∧ e_G X (d + 1) YX11_beginsAnew 169 [some (.inr (.inr 64)), some (.inl v1)] [.inl ((e_up M 72 w1.toNat w0) (81 + v1.toNat) 0), .inl (e_w (0 + v1)), .inr (.inr 532)] (557, gn, e_RF, (e_up M 72 w1.toNat w0)) o))))) : e_G X (d + 1) YX11_beginsAnew 139 [some (.inr (.inr 64)), some (.inl v1)] [.inl w0, .inl w1, .inr (.inr 72)] (557, gn, e_RF, M) o := by
  obtain ⟨hb1, h⟩ := h
  refine e_r_iast (j9 := w1.toNat) (pc' := 140) rfl (Nat.le_of_ble_eq_true rfl) hb1.1 hb1.2 rfl dX11_beginsAnew_139 rfl ?_
  refine e_r_aload_n (pc' := 141) (by decide) dX11_beginsAnew_140 rfl rfl rfl ?_
  refine e_r_getr (k := 31) (q := 532) (pc' := 144) cl_11 rfl (Nat.le_of_ble_eq_true rfl) rfl rfl fl_RX11_73 rfl (Nat.le_of_ble_eq_true rfl) dX11_beginsAnew_141 rfl ?_
  refine e_r_iconst (pc' := 145) dX11_beginsAnew_144 rfl (by decide) ?_
  refine e_r_iload_n (pc' := 146) dX11_beginsAnew_145 rfl rfl rfl ?_
  refine e_r_iadd (pc' := 147) dX11_beginsAnew_146 rfl ?_
  refine e_r_iload_n (pc' := 148) dX11_beginsAnew_147 rfl rfl rfl ?_
  refine e_r_aload_n (pc' := 149) (by decide) dX11_beginsAnew_148 rfl rfl rfl ?_
  refine e_r_getr (k := 12) (q := 68) (pc' := 152) cl_11 rfl (Nat.le_of_ble_eq_true rfl) rfl rfl fl_RX11_23 rfl (Nat.le_of_ble_eq_true rfl) dX11_beginsAnew_149 rfl ?_
  refine e_r_iconst (pc' := 153) dX11_beginsAnew_152 rfl (by decide) ?_
  refine e_r_iald (j9 := 0) (pc' := 154) rfl (Nat.le_of_ble_eq_true rfl) (by decide) (by decide) rfl dX11_beginsAnew_153 rfl ?_
  obtain ⟨ht2, hf3⟩ := h
  refine e_r_icmp_ge (tgt := 168) (pc' := 157) dX11_beginsAnew_154 rfl rfl (fun c => ?_) (fun c => ?_)
  · have h := ht2 c
    refine e_r_iconst (pc' := 169) dX11_beginsAnew_168 rfl (by decide) ?_
    exact h
  · have h := hf3 c
    refine e_r_aload_n (pc' := 158) (by decide) dX11_beginsAnew_157 rfl rfl rfl ?_
    refine e_r_getr (k := 18) (q := 80) (pc' := 161) cl_11 rfl (Nat.le_of_ble_eq_true rfl) rfl rfl fl_RX11_43 rfl (Nat.le_of_ble_eq_true rfl) dX11_beginsAnew_158 rfl ?_
    refine e_r_iload_n (pc' := 162) dX11_beginsAnew_161 rfl rfl rfl ?_
    obtain ⟨hb4, h⟩ := h
    refine e_r_aldr (q := (81 + v1.toNat)) (pc' := 163) rfl (Nat.le_of_ble_eq_true rfl) hb4.1 hb4.2 rfl (sh_80 hb4.1 hb4.2).2.1 dX11_beginsAnew_162 rfl ?_
    refine e_r_iconst (pc' := 164) dX11_beginsAnew_163 rfl (by decide) ?_
    refine e_r_iald (j9 := 0) (pc' := 165) (sh_80 hb4.1 hb4.2).1 (sh_80 hb4.1 hb4.2).2.1 (by decide) (by decide) rfl dX11_beginsAnew_164 rfl ?_
    refine e_r_goto (pc' := 169) dX11_beginsAnew_165 rfl ?_
    exact h
theorem wp_X11_beginsAnew_169 {X : e_X} {d gn : Nat} {o : e_O} (M : e_M) (v1 w0 w1 : Int) (h : ((0 ≤ w1 ∧ w1 < 56) ∧ ((0 ≤ (e_w (18 + v1)) ∧ (e_w (18 + v1)) < 56) ∧ e_G X (d + 1) YX11_beginsAnew 108 [some (.inr (.inr 64)), some (.inl (e_w (v1 + 1)))] [] (557, gn, e_RF, (e_up (e_up M 532 w1.toNat w0) 532 (e_w (18 + v1)).toNat (-1))) o))) : e_G X (d + 1) YX11_beginsAnew 169 [some (.inr (.inr 64)), some (.inl v1)] [.inl w0, .inl w1, .inr (.inr 532)] (557, gn, e_RF, M) o := by
  obtain ⟨hb1, h⟩ := h
  refine e_r_iast (j9 := w1.toNat) (pc' := 170) rfl (Nat.le_of_ble_eq_true rfl) hb1.1 hb1.2 rfl dX11_beginsAnew_169 rfl ?_
  refine e_r_aload_n (pc' := 171) (by decide) dX11_beginsAnew_170 rfl rfl rfl ?_
  refine e_r_getr (k := 31) (q := 532) (pc' := 174) cl_11 rfl (Nat.le_of_ble_eq_true rfl) rfl rfl fl_RX11_73 rfl (Nat.le_of_ble_eq_true rfl) dX11_beginsAnew_171 rfl ?_
  refine e_r_bipush (pc' := 176) dX11_beginsAnew_174 rfl (by decide) ?_
  refine e_r_iload_n (pc' := 177) dX11_beginsAnew_176 rfl rfl rfl ?_
  refine e_r_iadd (pc' := 178) dX11_beginsAnew_177 rfl ?_
  refine e_r_iconst (pc' := 179) dX11_beginsAnew_178 rfl (by decide) ?_
  obtain ⟨hb2, h⟩ := h
  refine e_r_iast (j9 := (e_w (18 + v1)).toNat) (pc' := 180) rfl (Nat.le_of_ble_eq_true rfl) hb2.1 hb2.2 rfl dX11_beginsAnew_179 rfl ?_
  refine e_r_iinc (pc' := 183) (loc' := [some (.inr (.inr 64)), some (.inl (e_w (v1 + 1)))]) dX11_beginsAnew_180 rfl rfl rfl rfl rfl ?_
  refine e_r_goto (pc' := 108) dX11_beginsAnew_183 rfl ?_
  exact h
theorem wp_X11_beginsAnew_188 {X : e_X} {d gn : Nat} {o : e_O} (M : e_M) (v1 : Int) (h : (((M 68 2) ≤ v1 → (o = (.inl none, (557, gn, e_RF, (e_up (e_up (e_up (e_up (e_up M 64 21 0) 64 35 0) 64 36 0) 64 37 0) 64 38 0))))) ∧ (¬ ((M 68 2) ≤ v1) → ((0 ≤ v1 ∧ v1 < 12) ∧ ((0 ≤ (e_w (30 + v1)) ∧ (e_w (30 + v1)) < 56) ∧ e_G X (d + 1) YX11_beginsAnew 188 [some (.inr (.inr 64)), some (.inl (e_w (v1 + 1)))] [] (557, gn, e_RF, (e_up M 532 (e_w (30 + v1)).toNat (M (101 + v1.toNat) 1))) o))))) : e_G X (d + 1) YX11_beginsAnew 188 [some (.inr (.inr 64)), some (.inl v1)] [] (557, gn, e_RF, M) o := by
  refine e_r_iload_n (pc' := 189) dX11_beginsAnew_188 rfl rfl rfl ?_
  refine e_r_aload_n (pc' := 190) (by decide) dX11_beginsAnew_189 rfl rfl rfl ?_
  refine e_r_getr (k := 12) (q := 68) (pc' := 193) cl_11 rfl (Nat.le_of_ble_eq_true rfl) rfl rfl fl_RX11_23 rfl (Nat.le_of_ble_eq_true rfl) dX11_beginsAnew_190 rfl ?_
  refine e_r_iconst (pc' := 194) dX11_beginsAnew_193 rfl (by decide) ?_
  refine e_r_iald (j9 := 2) (pc' := 195) rfl (Nat.le_of_ble_eq_true rfl) (by decide) (by decide) rfl dX11_beginsAnew_194 rfl ?_
  obtain ⟨ht1, hf2⟩ := h
  refine e_r_icmp_ge (tgt := 221) (pc' := 198) dX11_beginsAnew_195 rfl rfl (fun c => ?_) (fun c => ?_)
  · have h := ht1 c
    refine e_r_aload_n (pc' := 222) (by decide) dX11_beginsAnew_221 rfl rfl rfl ?_
    refine e_r_iconst (pc' := 223) dX11_beginsAnew_222 rfl (by decide) ?_
    refine e_r_puti (k := 21) (pc' := 226) cl_11 rfl (Nat.le_of_ble_eq_true rfl) rfl rfl fl_RX11_190 rfl (by decide +kernel) dX11_beginsAnew_223 rfl ?_
    refine e_r_aload_n (pc' := 227) (by decide) dX11_beginsAnew_226 rfl rfl rfl ?_
    refine e_r_iconst (pc' := 228) dX11_beginsAnew_227 rfl (by decide) ?_
    refine e_r_puti (k := 35) (pc' := 231) cl_11 rfl (Nat.le_of_ble_eq_true rfl) rfl rfl fl_RX11_193 rfl (by decide +kernel) dX11_beginsAnew_228 rfl ?_
    refine e_r_aload_n (pc' := 232) (by decide) dX11_beginsAnew_231 rfl rfl rfl ?_
    refine e_r_iconst (pc' := 233) dX11_beginsAnew_232 rfl (by decide) ?_
    refine e_r_puti (k := 36) (pc' := 236) cl_11 rfl (Nat.le_of_ble_eq_true rfl) rfl rfl fl_RX11_196 rfl (by decide +kernel) dX11_beginsAnew_233 rfl ?_
    refine e_r_aload_n (pc' := 237) (by decide) dX11_beginsAnew_236 rfl rfl rfl ?_
    refine e_r_iconst (pc' := 238) dX11_beginsAnew_237 rfl (by decide) ?_
    refine e_r_puti (k := 37) (pc' := 241) cl_11 rfl (Nat.le_of_ble_eq_true rfl) rfl rfl fl_RX11_199 rfl (by decide +kernel) dX11_beginsAnew_238 rfl ?_
    refine e_r_aload_n (pc' := 242) (by decide) dX11_beginsAnew_241 rfl rfl rfl ?_
    refine e_r_iconst (pc' := 243) dX11_beginsAnew_242 rfl (by decide) ?_
    refine e_r_puti (k := 38) (pc' := 246) cl_11 rfl (Nat.le_of_ble_eq_true rfl) rfl rfl fl_RX11_202 rfl (by decide +kernel) dX11_beginsAnew_243 rfl ?_
    exact e_r_vret rfl dX11_beginsAnew_246 h
  · have h := hf2 c
    refine e_r_aload_n (pc' := 199) (by decide) dX11_beginsAnew_198 rfl rfl rfl ?_
    refine e_r_getr (k := 31) (q := 532) (pc' := 202) cl_11 rfl (Nat.le_of_ble_eq_true rfl) rfl rfl fl_RX11_73 rfl (Nat.le_of_ble_eq_true rfl) dX11_beginsAnew_199 rfl ?_
    refine e_r_bipush (pc' := 204) dX11_beginsAnew_202 rfl (by decide) ?_
    refine e_r_iload_n (pc' := 205) dX11_beginsAnew_204 rfl rfl rfl ?_
    refine e_r_iadd (pc' := 206) dX11_beginsAnew_205 rfl ?_
    refine e_r_aload_n (pc' := 207) (by decide) dX11_beginsAnew_206 rfl rfl rfl ?_
    refine e_r_getr (k := 20) (q := 100) (pc' := 210) cl_11 rfl (Nat.le_of_ble_eq_true rfl) rfl rfl fl_RX11_49 rfl (Nat.le_of_ble_eq_true rfl) dX11_beginsAnew_207 rfl ?_
    refine e_r_iload_n (pc' := 211) dX11_beginsAnew_210 rfl rfl rfl ?_
    obtain ⟨hb3, h⟩ := h
    refine e_r_aldr (q := (101 + v1.toNat)) (pc' := 212) rfl (Nat.le_of_ble_eq_true rfl) hb3.1 hb3.2 rfl (sh_100 hb3.1 hb3.2).2.1 dX11_beginsAnew_211 rfl ?_
    refine e_r_iconst (pc' := 213) dX11_beginsAnew_212 rfl (by decide) ?_
    refine e_r_iald (j9 := 1) (pc' := 214) (sh_100 hb3.1 hb3.2).1 (sh_100 hb3.1 hb3.2).2.1 (by decide) (by decide) rfl dX11_beginsAnew_213 rfl ?_
    obtain ⟨hb4, h⟩ := h
    refine e_r_iast (j9 := (e_w (30 + v1)).toNat) (pc' := 215) rfl (Nat.le_of_ble_eq_true rfl) hb4.1 hb4.2 rfl dX11_beginsAnew_214 rfl ?_
    refine e_r_iinc (pc' := 218) (loc' := [some (.inr (.inr 64)), some (.inl (e_w (v1 + 1)))]) dX11_beginsAnew_215 rfl rfl rfl rfl rfl ?_
    refine e_r_goto (pc' := 188) dX11_beginsAnew_218 rfl ?_
    exact h
theorem wp_X11_notes_0 {X : e_X} {d gn : Nat} {o : e_O} (M : e_M) (p1 p2 : Int) (h : (((M 64 5) = 0 → ((0 ≤ (M 64 22) ∧ (M 64 22) < 160) ∧ ((0 ≤ ((e_up M (275 + (M 64 22).toNat) 0 p1) 64 22) ∧ ((e_up M (275 + (M 64 22).toNat) 0 p1) 64 22) < 160) ∧ (o = (.inl none, (557, gn, e_RF, (e_up (e_up (e_up M (275 + (M 64 22).toNat) 0 p1) (275 + ((e_up M (275 + (M 64 22).toNat) 0 p1) 64 22).toNat) 1 p2) 64 22 (e_w (((e_up (e_up M (275 + (M 64 22).toNat) 0 p1) (275 + ((e_up M (275 + (M 64 22).toNat) 0 p1) 64 22).toNat) 1 p2) 64 22) + 1))))))))) ∧ (¬ ((M 64 5) = 0) → (o = (.inl none, (557, gn, e_RF, M)))))) : e_G X d YX11_notes 0 [some (.inr (.inr 64)), some (.inl p1), some (.inl p2)] [] (557, gn, e_RF, M) o := by
  refine e_r_aload_n (pc' := 1) (by decide) dX11_notes_0 rfl rfl rfl ?_
  refine e_r_geti (k := 5) (pc' := 4) cl_11 rfl (Nat.le_of_ble_eq_true rfl) rfl rfl fl_RX11_113 dX11_notes_1 rfl ?_
  obtain ⟨ht1, hf2⟩ := h
  refine e_r_if_eq (tgt := 8) (pc' := 7) dX11_notes_4 rfl rfl (fun c => ?_) (fun c => ?_)
  · have h := ht1 c
    refine e_r_aload_n (pc' := 9) (by decide) dX11_notes_8 rfl rfl rfl ?_
    refine e_r_getr (k := 24) (q := 274) (pc' := 12) cl_11 rfl (Nat.le_of_ble_eq_true rfl) rfl rfl fl_RX11_55 rfl (Nat.le_of_ble_eq_true rfl) dX11_notes_9 rfl ?_
    refine e_r_aload_n (pc' := 13) (by decide) dX11_notes_12 rfl rfl rfl ?_
    refine e_r_geti (k := 22) (pc' := 16) cl_11 rfl (Nat.le_of_ble_eq_true rfl) rfl rfl fl_RX11_205 dX11_notes_13 rfl ?_
    obtain ⟨hb3, h⟩ := h
    refine e_r_aldr (q := (275 + (M 64 22).toNat)) (pc' := 17) rfl (Nat.le_of_ble_eq_true rfl) hb3.1 hb3.2 rfl (sh_274 hb3.1 hb3.2).2.1 dX11_notes_16 rfl ?_
    refine e_r_iconst (pc' := 18) dX11_notes_17 rfl (by decide) ?_
    refine e_r_iload_n (pc' := 19) dX11_notes_18 rfl rfl rfl ?_
    refine e_r_iast (j9 := 0) (pc' := 20) (sh_274 hb3.1 hb3.2).1 (sh_274 hb3.1 hb3.2).2.1 (by decide) (by decide) rfl dX11_notes_19 rfl ?_
    refine e_r_aload_n (pc' := 21) (by decide) dX11_notes_20 rfl rfl rfl ?_
    refine e_r_getr (k := 24) (q := 274) (pc' := 24) cl_11 rfl (Nat.le_of_ble_eq_true rfl) rfl rfl fl_RX11_55 rfl (Nat.le_of_ble_eq_true rfl) dX11_notes_21 rfl ?_
    refine e_r_aload_n (pc' := 25) (by decide) dX11_notes_24 rfl rfl rfl ?_
    refine e_r_geti (k := 22) (pc' := 28) cl_11 rfl (Nat.le_of_ble_eq_true rfl) rfl rfl fl_RX11_205 dX11_notes_25 rfl ?_
    obtain ⟨hb4, h⟩ := h
    refine e_r_aldr (q := (275 + ((e_up M (275 + (M 64 22).toNat) 0 p1) 64 22).toNat)) (pc' := 29) rfl (Nat.le_of_ble_eq_true rfl) hb4.1 hb4.2 rfl (sh_274 hb4.1 hb4.2).2.1 dX11_notes_28 rfl ?_
    refine e_r_iconst (pc' := 30) dX11_notes_29 rfl (by decide) ?_
    refine e_r_iload_n (pc' := 31) dX11_notes_30 rfl rfl rfl ?_
    refine e_r_iast (j9 := 1) (pc' := 32) (sh_274 hb4.1 hb4.2).1 (sh_274 hb4.1 hb4.2).2.1 (by decide) (by decide) rfl dX11_notes_31 rfl ?_
    refine e_r_aload_n (pc' := 33) (by decide) dX11_notes_32 rfl rfl rfl ?_
    refine e_r_dup (pc' := 34) rfl dX11_notes_33 rfl ?_
    refine e_r_geti (k := 22) (pc' := 37) cl_11 rfl (Nat.le_of_ble_eq_true rfl) rfl rfl fl_RX11_205 dX11_notes_34 rfl ?_
    refine e_r_iconst (pc' := 38) dX11_notes_37 rfl (by decide) ?_
    refine e_r_iadd (pc' := 39) dX11_notes_38 rfl ?_
    refine e_r_puti (k := 22) (pc' := 42) cl_11 rfl (Nat.le_of_ble_eq_true rfl) rfl rfl fl_RX11_205 rfl (by decide +kernel) dX11_notes_39 rfl ?_
    exact e_r_vret rfl dX11_notes_42 h
  · have h := hf2 c
    exact e_r_vret rfl dX11_notes_7 h
theorem wp_X11_opensOne_0 {X : e_X} {d gn : Nat} {o : e_O} (M : e_M) (hmo : e_mn (557, gn, e_RF, M) o.2) (h : ((¬ (M 64 5) = 0 → e_G X (d + 1) YX11_opensOne 28 [some (.inr (.inr 64))] [] (557, gn, e_RF, M) o) ∧ ((M 64 5) = 0 → ((¬ (M 64 8) = 6 → e_G X (d + 1) YX11_opensOne 28 [some (.inr (.inr 64))] [] (557, gn, e_RF, M) o) ∧ ((M 64 8) = 6 → (∃ N5 : e_M, e_E X d YX11_wrong [.inr (.inr 64), .inl 3, .inl (M 64 4)] (557, gn, e_RF, M) (.inl none, (557, gn, e_RF, N5)) ∧ e_G X (d + 1) YX11_opensOne 45 [some (.inr (.inr 64))] [] (557, gn, e_RF, N5) o)))))) : e_G X (d + 1) YX11_opensOne 0 [some (.inr (.inr 64))] [] (557, gn, e_RF, M) o := by
  refine e_r_aload_n (pc' := 1) (by decide) dX11_opensOne_0 rfl rfl rfl ?_
  refine e_r_geti (k := 5) (pc' := 4) cl_11 rfl (Nat.le_of_ble_eq_true rfl) rfl rfl fl_RX11_113 dX11_opensOne_1 rfl ?_
  obtain ⟨ht1, hf2⟩ := h
  refine e_r_if_ne (tgt := 28) (pc' := 7) dX11_opensOne_4 rfl rfl (fun c => ?_) (fun c => ?_)
  · have h := ht1 c
    exact h
  · have h := hf2 c
    refine e_r_aload_n (pc' := 8) (by decide) dX11_opensOne_7 rfl rfl rfl ?_
    refine e_r_geti (k := 8) (pc' := 11) cl_11 rfl (Nat.le_of_ble_eq_true rfl) rfl rfl fl_RX11_156 dX11_opensOne_8 rfl ?_
    refine e_r_bipush (pc' := 13) dX11_opensOne_11 rfl (by decide) ?_
    obtain ⟨ht3, hf4⟩ := h
    refine e_r_icmp_ne (tgt := 28) (pc' := 16) dX11_opensOne_13 rfl rfl (fun c => ?_) (fun c => ?_)
    · have h := ht3 c
      exact h
    · have h := hf4 c
      refine e_r_aload_n (pc' := 17) (by decide) dX11_opensOne_16 rfl rfl rfl ?_
      refine e_r_iconst (pc' := 18) dX11_opensOne_17 rfl (by decide) ?_
      refine e_r_aload_n (pc' := 19) (by decide) dX11_opensOne_18 rfl rfl rfl ?_
      refine e_r_geti (k := 4) (pc' := 22) cl_11 rfl (Nat.le_of_ble_eq_true rfl) rfl rfl fl_RX11_106 dX11_opensOne_19 rfl ?_
      obtain ⟨N5, he6, h⟩ := h
      refine e_r_callV (a := 64) (av := [.inl 3, .inl (M 64 4)]) (st := []) mqYX11_wrong ml_RX11_126 cl_11 rfl (Nat.le_of_ble_eq_true rfl) (by simp [e_cat]) rfl rfl rfl dX11_opensOne_22 (pc' := 25) rfl he6 ⟨Nat.le_refl _, Nat.le_refl _⟩ hmo ?_
      refine e_r_goto (pc' := 45) dX11_opensOne_25 rfl ?_
      exact h
theorem wp_X11_opensOne_45 {X : e_X} {d gn : Nat} {o : e_O} (M : e_M) (h : ((¬ (M 64 5) = 0 → (o = (.inl (some (.inl 0)), (557, gn, e_RF, M)))) ∧ ((M 64 5) = 0 → (o = (.inl (some (.inl 1)), (557, gn, e_RF, M)))))) : e_G X (d + 1) YX11_opensOne 45 [some (.inr (.inr 64))] [] (557, gn, e_RF, M) o := by
  refine e_r_aload_n (pc' := 46) (by decide) dX11_opensOne_45 rfl rfl rfl ?_
  refine e_r_geti (k := 5) (pc' := 49) cl_11 rfl (Nat.le_of_ble_eq_true rfl) rfl rfl fl_RX11_113 dX11_opensOne_46 rfl ?_
  obtain ⟨ht1, hf2⟩ := h
  refine e_r_if_ne (tgt := 56) (pc' := 52) dX11_opensOne_49 rfl rfl (fun c => ?_) (fun c => ?_)
  · have h := ht1 c
    refine e_r_iconst (pc' := 57) dX11_opensOne_56 rfl (by decide) ?_
    exact e_r_iret (ty := .boolean) rfl (e_nZ (by decide)) dX11_opensOne_57 h
  · have h := hf2 c
    refine e_r_iconst (pc' := 53) dX11_opensOne_52 rfl (by decide) ?_
    refine e_r_goto (pc' := 57) dX11_opensOne_53 rfl ?_
    exact e_r_iret (ty := .boolean) rfl (e_nZ (by decide)) dX11_opensOne_57 h
theorem wp_X11_opensOne_28 {X : e_X} {d gn : Nat} {o : e_O} (M : e_M) (h : ((¬ (M 64 5) = 0 → e_G X (d + 1) YX11_opensOne 45 [some (.inr (.inr 64))] [] (557, gn, e_RF, M) o) ∧ ((M 64 5) = 0 → e_G X (d + 1) YX11_opensOne 45 [some (.inr (.inr 64))] [] (557, gn, e_RF, (e_up M 64 8 (e_w ((M 64 8) + 1)))) o))) : e_G X (d + 1) YX11_opensOne 28 [some (.inr (.inr 64))] [] (557, gn, e_RF, M) o := by
  refine e_r_aload_n (pc' := 29) (by decide) dX11_opensOne_28 rfl rfl rfl ?_
  refine e_r_geti (k := 5) (pc' := 32) cl_11 rfl (Nat.le_of_ble_eq_true rfl) rfl rfl fl_RX11_113 dX11_opensOne_29 rfl ?_
  obtain ⟨ht1, hf2⟩ := h
  refine e_r_if_ne (tgt := 45) (pc' := 35) dX11_opensOne_32 rfl rfl (fun c => ?_) (fun c => ?_)
  · have h := ht1 c
    exact h
  · have h := hf2 c
    refine e_r_aload_n (pc' := 36) (by decide) dX11_opensOne_35 rfl rfl rfl ?_
    refine e_r_dup (pc' := 37) rfl dX11_opensOne_36 rfl ?_
    refine e_r_geti (k := 8) (pc' := 40) cl_11 rfl (Nat.le_of_ble_eq_true rfl) rfl rfl fl_RX11_156 dX11_opensOne_37 rfl ?_
    refine e_r_iconst (pc' := 41) dX11_opensOne_40 rfl (by decide) ?_
    refine e_r_iadd (pc' := 42) dX11_opensOne_41 rfl ?_
    refine e_r_puti (k := 8) (pc' := 45) cl_11 rfl (Nat.le_of_ble_eq_true rfl) rfl rfl fl_RX11_156 rfl (by decide +kernel) dX11_opensOne_42 rfl ?_
    exact h
theorem wp_X11_sum_0 {X : e_X} {d gn : Nat} {o : e_O} (M : e_M) (hmo : e_mn (557, gn, e_RF, M) o.2) (h : (∃ N1 : e_M, e_E X d YX11_product [.inr (.inr 64)] (557, gn, e_RF, M) (.inl none, (557, gn, e_RF, N1)) ∧ e_G X (d + 1) YX11_sum 4 [some (.inr (.inr 64)), none] [] (557, gn, e_RF, N1) o)) : e_G X (d + 1) YX11_sum 0 [some (.inr (.inr 64)), none] [] (557, gn, e_RF, M) o := by
  refine e_r_aload_n (pc' := 1) (by decide) dX11_sum_0 rfl rfl rfl ?_
  obtain ⟨N1, he2, h⟩ := h
  refine e_r_callV (a := 64) (av := []) (st := []) mqYX11_product ml_RX11_208 cl_11 rfl (Nat.le_of_ble_eq_true rfl) (by simp [e_cat]) rfl rfl rfl dX11_sum_1 (pc' := 4) rfl he2 ⟨Nat.le_refl _, Nat.le_refl _⟩ hmo ?_
  exact h
theorem wp_X11_sum_4 {X : e_X} {d gn : Nat} {o : e_O} (M : e_M) (hmo : e_mn (557, gn, e_RF, M) o.2) (h : ((¬ (M 64 5) = 0 → (o = (.inl none, (557, gn, e_RF, M)))) ∧ ((M 64 5) = 0 → (∃ (r4 : Int) (N3 : e_M), e_E X d YX11_takesSign [.inr (.inr 64), .inl 43] (557, gn, e_RF, M) (.inl (some (.inl r4)), (557, gn, e_RF, N3)) ∧ ((r4 = 0 → (∃ (r9 : Int) (N8 : e_M), e_E X d YX11_takesSign [.inr (.inr 64), .inl 45] (557, gn, e_RF, N3) (.inl (some (.inl r9)), (557, gn, e_RF, N8)) ∧ ((r9 = 0 → e_G X (d + 1) YX11_sum 38 [some (.inr (.inr 64)), none] [.inl (-1)] (557, gn, e_RF, N8) o) ∧ (¬ (r9 = 0) → e_G X (d + 1) YX11_sum 38 [some (.inr (.inr 64)), none] [.inl 3] (557, gn, e_RF, N8) o)))) ∧ (¬ (r4 = 0) → e_G X (d + 1) YX11_sum 38 [some (.inr (.inr 64)), none] [.inl 2] (557, gn, e_RF, N3) o)))))) : e_G X (d + 1) YX11_sum 4 [some (.inr (.inr 64)), none] [] (557, gn, e_RF, M) o := by
  refine e_r_aload_n (pc' := 5) (by decide) dX11_sum_4 rfl rfl rfl ?_
  refine e_r_geti (k := 5) (pc' := 8) cl_11 rfl (Nat.le_of_ble_eq_true rfl) rfl rfl fl_RX11_113 dX11_sum_5 rfl ?_
  obtain ⟨ht1, hf2⟩ := h
  refine e_r_if_ne (tgt := 58) (pc' := 11) dX11_sum_8 rfl rfl (fun c => ?_) (fun c => ?_)
  · have h := ht1 c
    exact e_r_vret rfl dX11_sum_58 h
  · have h := hf2 c
    refine e_r_aload_n (pc' := 12) (by decide) dX11_sum_11 rfl rfl rfl ?_
    refine e_r_bipush (pc' := 14) dX11_sum_12 rfl (by decide) ?_
    obtain ⟨r4, N3, he5, h⟩ := h
    refine e_r_callV (a := 64) (av := [.inl 43]) (st := []) mqYX11_takesSign ml_RX11_211 cl_11 rfl (Nat.le_of_ble_eq_true rfl) (by simp [e_cat]) rfl rfl rfl dX11_sum_14 (pc' := 17) rfl he5 ⟨Nat.le_refl _, Nat.le_refl _⟩ hmo ?_
    obtain ⟨ht6, hf7⟩ := h
    refine e_r_if_eq (tgt := 24) (pc' := 20) dX11_sum_17 rfl rfl (fun c => ?_) (fun c => ?_)
    · have h := ht6 c
      refine e_r_aload_n (pc' := 25) (by decide) dX11_sum_24 rfl rfl rfl ?_
      refine e_r_bipush (pc' := 27) dX11_sum_25 rfl (by decide) ?_
      obtain ⟨r9, N8, he10, h⟩ := h
      refine e_r_callV (a := 64) (av := [.inl 45]) (st := []) mqYX11_takesSign ml_RX11_211 cl_11 rfl (Nat.le_of_ble_eq_true rfl) (by simp [e_cat]) rfl rfl rfl dX11_sum_27 (pc' := 30) rfl he10 ⟨Nat.le_refl _, Nat.le_refl _⟩ hmo ?_
      obtain ⟨ht11, hf12⟩ := h
      refine e_r_if_eq (tgt := 37) (pc' := 33) dX11_sum_30 rfl rfl (fun c => ?_) (fun c => ?_)
      · have h := ht11 c
        refine e_r_iconst (pc' := 38) dX11_sum_37 rfl (by decide) ?_
        exact h
      · have h := hf12 c
        refine e_r_iconst (pc' := 34) dX11_sum_33 rfl (by decide) ?_
        refine e_r_goto (pc' := 38) dX11_sum_34 rfl ?_
        exact h
    · have h := hf7 c
      refine e_r_iconst (pc' := 21) dX11_sum_20 rfl (by decide) ?_
      refine e_r_goto (pc' := 38) dX11_sum_21 rfl ?_
      exact h
theorem wp_X11_sum_38 {X : e_X} {d gn : Nat} {o : e_O} (M : e_M) (w0 : Int) (hmo : e_mn (557, gn, e_RF, M) o.2) (h : ((¬ w0 = (-1) → (∃ N3 : e_M, e_E X d YX11_product [.inr (.inr 64)] (557, gn, e_RF, M) (.inl none, (557, gn, e_RF, N3)) ∧ (∃ N5 : e_M, e_E X d YX11_notes [.inr (.inr 64), .inl w0, .inl 0] (557, gn, e_RF, N3) (.inl none, (557, gn, e_RF, N5)) ∧ e_G X (d + 1) YX11_sum 4 [some (.inr (.inr 64)), none] [] (557, gn, e_RF, N5) o))) ∧ (w0 = (-1) → (o = (.inl none, (557, gn, e_RF, M)))))) : e_G X (d + 1) YX11_sum 38 [some (.inr (.inr 64)), none] [.inl w0] (557, gn, e_RF, M) o := by
  refine e_r_istore_n (pc' := 39) (loc' := [some (.inr (.inr 64)), some (.inl w0)]) dX11_sum_38 rfl rfl rfl rfl rfl ?_
  refine e_r_iload_n (pc' := 40) dX11_sum_39 rfl rfl rfl ?_
  refine e_r_iconst (pc' := 41) dX11_sum_40 rfl (by decide) ?_
  obtain ⟨ht1, hf2⟩ := h
  refine e_r_icmp_ne (tgt := 45) (pc' := 44) dX11_sum_41 rfl rfl (fun c => ?_) (fun c => ?_)
  · have h := ht1 c
    refine e_r_aload_n (pc' := 46) (by decide) dX11_sum_45 rfl rfl rfl ?_
    obtain ⟨N3, he4, h⟩ := h
    refine e_r_callV (a := 64) (av := []) (st := []) mqYX11_product ml_RX11_208 cl_11 rfl (Nat.le_of_ble_eq_true rfl) (by simp [e_cat]) rfl rfl rfl dX11_sum_46 (pc' := 49) rfl he4 ⟨Nat.le_refl _, Nat.le_refl _⟩ hmo ?_
    refine e_r_aload_n (pc' := 50) (by decide) dX11_sum_49 rfl rfl rfl ?_
    refine e_r_iload_n (pc' := 51) dX11_sum_50 rfl rfl rfl ?_
    refine e_r_iconst (pc' := 52) dX11_sum_51 rfl (by decide) ?_
    obtain ⟨N5, he6, h⟩ := h
    refine e_r_callV (a := 64) (av := [.inl w0, .inl 0]) (st := []) mqYX11_notes ml_RX11_214 cl_11 rfl (Nat.le_of_ble_eq_true rfl) (by simp [e_cat]) rfl rfl rfl dX11_sum_52 (pc' := 55) rfl he6 ⟨Nat.le_refl _, Nat.le_refl _⟩ hmo ?_
    refine e_r_goto (pc' := 4) dX11_sum_55 rfl ?_
    exact e_forget (m := [true, false]) h rfl
  · have h := hf2 c
    exact e_r_vret rfl dX11_sum_44 h
theorem wp_X11_product_0 {X : e_X} {d gn : Nat} {o : e_O} (M : e_M) (hmo : e_mn (557, gn, e_RF, M) o.2) (h : (∃ N1 : e_M, e_E X d YX11_one [.inr (.inr 64)] (557, gn, e_RF, M) (.inl none, (557, gn, e_RF, N1)) ∧ e_G X (d + 1) YX11_product 4 [some (.inr (.inr 64)), none] [] (557, gn, e_RF, N1) o)) : e_G X (d + 1) YX11_product 0 [some (.inr (.inr 64)), none] [] (557, gn, e_RF, M) o := by
  refine e_r_aload_n (pc' := 1) (by decide) dX11_product_0 rfl rfl rfl ?_
  obtain ⟨N1, he2, h⟩ := h
  refine e_r_callV (a := 64) (av := []) (st := []) mqYX11_one ml_RX11_217 cl_11 rfl (Nat.le_of_ble_eq_true rfl) (by simp [e_cat]) rfl rfl rfl dX11_product_1 (pc' := 4) rfl he2 ⟨Nat.le_refl _, Nat.le_refl _⟩ hmo ?_
  exact h
theorem wp_X11_product_4 {X : e_X} {d gn : Nat} {o : e_O} (M : e_M) (hmo : e_mn (557, gn, e_RF, M) o.2) (h : ((¬ (M 64 5) = 0 → (o = (.inl none, (557, gn, e_RF, M)))) ∧ ((M 64 5) = 0 → (∃ (r4 : Int) (N3 : e_M), e_E X d YX11_takesSign [.inr (.inr 64), .inl 42] (557, gn, e_RF, M) (.inl (some (.inl r4)), (557, gn, e_RF, N3)) ∧ ((r4 = 0 → (∃ (r9 : Int) (N8 : e_M), e_E X d YX11_takesSign [.inr (.inr 64), .inl 47] (557, gn, e_RF, N3) (.inl (some (.inl r9)), (557, gn, e_RF, N8)) ∧ ((r9 = 0 → (∃ (r14 : Int) (N13 : e_M), e_E X d YX11_takesSign [.inr (.inr 64), .inl 37] (557, gn, e_RF, N8) (.inl (some (.inl r14)), (557, gn, e_RF, N13)) ∧ ((r14 = 0 → e_G X (d + 1) YX11_product 52 [some (.inr (.inr 64)), none] [.inl (-1)] (557, gn, e_RF, N13) o) ∧ (¬ (r14 = 0) → e_G X (d + 1) YX11_product 52 [some (.inr (.inr 64)), none] [.inl 6] (557, gn, e_RF, N13) o)))) ∧ (¬ (r9 = 0) → e_G X (d + 1) YX11_product 52 [some (.inr (.inr 64)), none] [.inl 5] (557, gn, e_RF, N8) o)))) ∧ (¬ (r4 = 0) → e_G X (d + 1) YX11_product 52 [some (.inr (.inr 64)), none] [.inl 4] (557, gn, e_RF, N3) o)))))) : e_G X (d + 1) YX11_product 4 [some (.inr (.inr 64)), none] [] (557, gn, e_RF, M) o := by
  refine e_r_aload_n (pc' := 5) (by decide) dX11_product_4 rfl rfl rfl ?_
  refine e_r_geti (k := 5) (pc' := 8) cl_11 rfl (Nat.le_of_ble_eq_true rfl) rfl rfl fl_RX11_113 dX11_product_5 rfl ?_
  obtain ⟨ht1, hf2⟩ := h
  refine e_r_if_ne (tgt := 72) (pc' := 11) dX11_product_8 rfl rfl (fun c => ?_) (fun c => ?_)
  · have h := ht1 c
    exact e_r_vret rfl dX11_product_72 h
  · have h := hf2 c
    refine e_r_aload_n (pc' := 12) (by decide) dX11_product_11 rfl rfl rfl ?_
    refine e_r_bipush (pc' := 14) dX11_product_12 rfl (by decide) ?_
    obtain ⟨r4, N3, he5, h⟩ := h
    refine e_r_callV (a := 64) (av := [.inl 42]) (st := []) mqYX11_takesSign ml_RX11_211 cl_11 rfl (Nat.le_of_ble_eq_true rfl) (by simp [e_cat]) rfl rfl rfl dX11_product_14 (pc' := 17) rfl he5 ⟨Nat.le_refl _, Nat.le_refl _⟩ hmo ?_
    obtain ⟨ht6, hf7⟩ := h
    refine e_r_if_eq (tgt := 24) (pc' := 20) dX11_product_17 rfl rfl (fun c => ?_) (fun c => ?_)
    · have h := ht6 c
      refine e_r_aload_n (pc' := 25) (by decide) dX11_product_24 rfl rfl rfl ?_
      refine e_r_bipush (pc' := 27) dX11_product_25 rfl (by decide) ?_
      obtain ⟨r9, N8, he10, h⟩ := h
      refine e_r_callV (a := 64) (av := [.inl 47]) (st := []) mqYX11_takesSign ml_RX11_211 cl_11 rfl (Nat.le_of_ble_eq_true rfl) (by simp [e_cat]) rfl rfl rfl dX11_product_27 (pc' := 30) rfl he10 ⟨Nat.le_refl _, Nat.le_refl _⟩ hmo ?_
      obtain ⟨ht11, hf12⟩ := h
      refine e_r_if_eq (tgt := 37) (pc' := 33) dX11_product_30 rfl rfl (fun c => ?_) (fun c => ?_)
      · have h := ht11 c
        refine e_r_aload_n (pc' := 38) (by decide) dX11_product_37 rfl rfl rfl ?_
        refine e_r_bipush (pc' := 40) dX11_product_38 rfl (by decide) ?_
        obtain ⟨r14, N13, he15, h⟩ := h
        refine e_r_callV (a := 64) (av := [.inl 37]) (st := []) mqYX11_takesSign ml_RX11_211 cl_11 rfl (Nat.le_of_ble_eq_true rfl) (by simp [e_cat]) rfl rfl rfl dX11_product_40 (pc' := 43) rfl he15 ⟨Nat.le_refl _, Nat.le_refl _⟩ hmo ?_
        obtain ⟨ht16, hf17⟩ := h
        refine e_r_if_eq (tgt := 51) (pc' := 46) dX11_product_43 rfl rfl (fun c => ?_) (fun c => ?_)
        · have h := ht16 c
          refine e_r_iconst (pc' := 52) dX11_product_51 rfl (by decide) ?_
          exact h
        · have h := hf17 c
          refine e_r_bipush (pc' := 48) dX11_product_46 rfl (by decide) ?_
          refine e_r_goto (pc' := 52) dX11_product_48 rfl ?_
          exact h
      · have h := hf12 c
        refine e_r_iconst (pc' := 34) dX11_product_33 rfl (by decide) ?_
        refine e_r_goto (pc' := 52) dX11_product_34 rfl ?_
        exact h
    · have h := hf7 c
      refine e_r_iconst (pc' := 21) dX11_product_20 rfl (by decide) ?_
      refine e_r_goto (pc' := 52) dX11_product_21 rfl ?_
      exact h
theorem wp_X11_product_52 {X : e_X} {d gn : Nat} {o : e_O} (M : e_M) (w0 : Int) (hmo : e_mn (557, gn, e_RF, M) o.2) (h : ((¬ w0 = (-1) → (∃ N3 : e_M, e_E X d YX11_one [.inr (.inr 64)] (557, gn, e_RF, M) (.inl none, (557, gn, e_RF, N3)) ∧ (∃ N5 : e_M, e_E X d YX11_notes [.inr (.inr 64), .inl w0, .inl 0] (557, gn, e_RF, N3) (.inl none, (557, gn, e_RF, N5)) ∧ e_G X (d + 1) YX11_product 4 [some (.inr (.inr 64)), none] [] (557, gn, e_RF, N5) o))) ∧ (w0 = (-1) → (o = (.inl none, (557, gn, e_RF, M)))))) : e_G X (d + 1) YX11_product 52 [some (.inr (.inr 64)), none] [.inl w0] (557, gn, e_RF, M) o := by
  refine e_r_istore_n (pc' := 53) (loc' := [some (.inr (.inr 64)), some (.inl w0)]) dX11_product_52 rfl rfl rfl rfl rfl ?_
  refine e_r_iload_n (pc' := 54) dX11_product_53 rfl rfl rfl ?_
  refine e_r_iconst (pc' := 55) dX11_product_54 rfl (by decide) ?_
  obtain ⟨ht1, hf2⟩ := h
  refine e_r_icmp_ne (tgt := 59) (pc' := 58) dX11_product_55 rfl rfl (fun c => ?_) (fun c => ?_)
  · have h := ht1 c
    refine e_r_aload_n (pc' := 60) (by decide) dX11_product_59 rfl rfl rfl ?_
    obtain ⟨N3, he4, h⟩ := h
    refine e_r_callV (a := 64) (av := []) (st := []) mqYX11_one ml_RX11_217 cl_11 rfl (Nat.le_of_ble_eq_true rfl) (by simp [e_cat]) rfl rfl rfl dX11_product_60 (pc' := 63) rfl he4 ⟨Nat.le_refl _, Nat.le_refl _⟩ hmo ?_
    refine e_r_aload_n (pc' := 64) (by decide) dX11_product_63 rfl rfl rfl ?_
    refine e_r_iload_n (pc' := 65) dX11_product_64 rfl rfl rfl ?_
    refine e_r_iconst (pc' := 66) dX11_product_65 rfl (by decide) ?_
    obtain ⟨N5, he6, h⟩ := h
    refine e_r_callV (a := 64) (av := [.inl w0, .inl 0]) (st := []) mqYX11_notes ml_RX11_214 cl_11 rfl (Nat.le_of_ble_eq_true rfl) (by simp [e_cat]) rfl rfl rfl dX11_product_66 (pc' := 69) rfl he6 ⟨Nat.le_refl _, Nat.le_refl _⟩ hmo ?_
    refine e_r_goto (pc' := 4) dX11_product_69 rfl ?_
    exact e_forget (m := [true, false]) h rfl
  · have h := hf2 c
    exact e_r_vret rfl dX11_product_58 h
theorem wp_X11_knownHere_0 {X : e_X} {d gn : Nat} {o : e_O} (M : e_M) (hmo : e_mn (557, gn, e_RF, M) o.2) (h : (∃ (r2 : Int) (N1 : e_M), e_E X d YX11_takes [.inr (.inr 64), .inl 23, .inl 5, .inl 5, .inl 11, .inl 0, .inl 0] (557, gn, e_RF, M) (.inl (some (.inl r2)), (557, gn, e_RF, N1)) ∧ ((r2 = 0 → (∃ (r7 : Int) (N6 : e_M), e_E X d YX11_takes [.inr (.inr 64), .inl 19, .inl 15, .inl 12, .inl 4, .inl 0, .inl 0] (557, gn, e_RF, N1) (.inl (some (.inl r7)), (557, gn, e_RF, N6)) ∧ ((r7 = 0 → (∃ (r12 : Int) (N11 : e_M), e_E X d YX11_six [.inl 19, .inl 11, .inl 9, .inl 16, .inl 16, .inl 5] (557, gn, e_RF, N6) (.inl (some (.inl r12)), (557, gn, e_RF, N11)) ∧ (∃ (r15 : Int) (N14 : e_M), e_E X d YX11_isSeven [.inr (.inr 64), .inl r12, .inl 100] (557, gn, e_RF, N11) (.inl (some (.inl r15)), (557, gn, e_RF, N14)) ∧ ((r15 = 0 → (∃ (r20 : Int) (N19 : e_M), e_E X d YX11_takes [.inr (.inr 64), .inl 3, .inl 15, .inl 9, .inl 14, .inl 19, .inl 0] (557, gn, e_RF, N14) (.inl (some (.inl r20)), (557, gn, e_RF, N19)) ∧ ((r20 = 0 → (∃ (r25 : Int) (N24 : e_M), e_E X d YX11_takes [.inr (.inr 64), .inl 23, .inl 1, .inl 7, .inl 5, .inl 0, .inl 0] (557, gn, e_RF, N19) (.inl (some (.inl r25)), (557, gn, e_RF, N24)) ∧ ((r25 = 0 → (∃ (r30 : Int) (N29 : e_M), e_E X d YX11_takes [.inr (.inr 64), .inl 14, .inl 5, .inl 5, .inl 4, .inl 5, .inl 4] (557, gn, e_RF, N24) (.inl (some (.inl r30)), (557, gn, e_RF, N29)) ∧ ((r30 = 0 → (∃ (r35 : Int) (N34 : e_M), e_E X d YX11_takes [.inr (.inr 64), .inl 20, .inl 1, .inl 19, .inl 11, .inl 19, .inl 0] (557, gn, e_RF, N29) (.inl (some (.inl r35)), (557, gn, e_RF, N34)) ∧ ((r35 = 0 → (∃ (r40 : Int) (N39 : e_M), e_E X d YX11_takes [.inr (.inr 64), .inl 16, .inl 5, .inl 18, .inl 19, .inl 15, .inl 14] (557, gn, e_RF, N34) (.inl (some (.inl r40)), (557, gn, e_RF, N39)) ∧ ((r40 = 0 → (o = (.inl (some (.inl (-1))), (557, gn, e_RF, N39)))) ∧ (¬ (r40 = 0) → (o = (.inl (some (.inl 7)), (557, gn, e_RF, N39))))))) ∧ (¬ (r35 = 0) → (o = (.inl (some (.inl 6)), (557, gn, e_RF, N34))))))) ∧ (¬ (r30 = 0) → (o = (.inl (some (.inl 5)), (557, gn, e_RF, N29))))))) ∧ (¬ (r25 = 0) → (o = (.inl (some (.inl 4)), (557, gn, e_RF, N24))))))) ∧ (¬ (r20 = 0) → (o = (.inl (some (.inl 3)), (557, gn, e_RF, N19))))))) ∧ (¬ (r15 = 0) → (o = (.inl (some (.inl 2)), (557, gn, e_RF, N14)))))))) ∧ (¬ (r7 = 0) → (o = (.inl (some (.inl 1)), (557, gn, e_RF, N6))))))) ∧ (¬ (r2 = 0) → (o = (.inl (some (.inl 0)), (557, gn, e_RF, N1))))))) : e_G X (d + 1) YX11_knownHere 0 [some (.inr (.inr 64))] [] (557, gn, e_RF, M) o := by
  refine e_r_aload_n (pc' := 1) (by decide) dX11_knownHere_0 rfl rfl rfl ?_
  refine e_r_bipush (pc' := 3) dX11_knownHere_1 rfl (by decide) ?_
  refine e_r_iconst (pc' := 4) dX11_knownHere_3 rfl (by decide) ?_
  refine e_r_iconst (pc' := 5) dX11_knownHere_4 rfl (by decide) ?_
  refine e_r_bipush (pc' := 7) dX11_knownHere_5 rfl (by decide) ?_
  refine e_r_iconst (pc' := 8) dX11_knownHere_7 rfl (by decide) ?_
  refine e_r_iconst (pc' := 9) dX11_knownHere_8 rfl (by decide) ?_
  obtain ⟨r2, N1, he3, h⟩ := h
  refine e_r_callV (a := 64) (av := [.inl 23, .inl 5, .inl 5, .inl 11, .inl 0, .inl 0]) (st := []) mqYX11_takes ml_RX11_220 cl_11 rfl (Nat.le_of_ble_eq_true rfl) (by simp [e_cat]) rfl rfl rfl dX11_knownHere_9 (pc' := 12) rfl he3 ⟨Nat.le_refl _, Nat.le_refl _⟩ hmo ?_
  obtain ⟨ht4, hf5⟩ := h
  refine e_r_if_eq (tgt := 17) (pc' := 15) dX11_knownHere_12 rfl rfl (fun c => ?_) (fun c => ?_)
  · have h := ht4 c
    refine e_r_aload_n (pc' := 18) (by decide) dX11_knownHere_17 rfl rfl rfl ?_
    refine e_r_bipush (pc' := 20) dX11_knownHere_18 rfl (by decide) ?_
    refine e_r_bipush (pc' := 22) dX11_knownHere_20 rfl (by decide) ?_
    refine e_r_bipush (pc' := 24) dX11_knownHere_22 rfl (by decide) ?_
    refine e_r_iconst (pc' := 25) dX11_knownHere_24 rfl (by decide) ?_
    refine e_r_iconst (pc' := 26) dX11_knownHere_25 rfl (by decide) ?_
    refine e_r_iconst (pc' := 27) dX11_knownHere_26 rfl (by decide) ?_
    obtain ⟨r7, N6, he8, h⟩ := h
    refine e_r_callV (a := 64) (av := [.inl 19, .inl 15, .inl 12, .inl 4, .inl 0, .inl 0]) (st := []) mqYX11_takes ml_RX11_220 cl_11 rfl (Nat.le_of_ble_eq_true rfl) (by simp [e_cat]) rfl rfl rfl dX11_knownHere_27 (pc' := 30) rfl he8 ⟨Nat.le_refl _, Nat.le_refl _⟩ hmo ?_
    obtain ⟨ht9, hf10⟩ := h
    refine e_r_if_eq (tgt := 35) (pc' := 33) dX11_knownHere_30 rfl rfl (fun c => ?_) (fun c => ?_)
    · have h := ht9 c
      refine e_r_aload_n (pc' := 36) (by decide) dX11_knownHere_35 rfl rfl rfl ?_
      refine e_r_bipush (pc' := 38) dX11_knownHere_36 rfl (by decide) ?_
      refine e_r_bipush (pc' := 40) dX11_knownHere_38 rfl (by decide) ?_
      refine e_r_bipush (pc' := 42) dX11_knownHere_40 rfl (by decide) ?_
      refine e_r_bipush (pc' := 44) dX11_knownHere_42 rfl (by decide) ?_
      refine e_r_bipush (pc' := 46) dX11_knownHere_44 rfl (by decide) ?_
      refine e_r_iconst (pc' := 47) dX11_knownHere_46 rfl (by decide) ?_
      obtain ⟨r12, N11, he13, h⟩ := h
      refine e_r_callS (av := [.inl 19, .inl 11, .inl 9, .inl 16, .inl 16, .inl 5]) (st := [.inr (.inr 64)]) mqYX11_six ml_RX11_142 (by simp [e_cat]) rfl rfl rfl dX11_knownHere_47 (pc' := 50) rfl he13 ⟨Nat.le_refl _, Nat.le_refl _⟩ hmo ?_
      refine e_r_bipush (pc' := 52) dX11_knownHere_50 rfl (by decide) ?_
      obtain ⟨r15, N14, he16, h⟩ := h
      refine e_r_callV (a := 64) (av := [.inl r12, .inl 100]) (st := []) mqYX11_isSeven ml_RX11_223 cl_11 rfl (Nat.le_of_ble_eq_true rfl) (by simp [e_cat]) rfl rfl rfl dX11_knownHere_52 (pc' := 55) rfl he16 ⟨Nat.le_refl _, Nat.le_refl _⟩ hmo ?_
      obtain ⟨ht17, hf18⟩ := h
      refine e_r_if_eq (tgt := 60) (pc' := 58) dX11_knownHere_55 rfl rfl (fun c => ?_) (fun c => ?_)
      · have h := ht17 c
        refine e_r_aload_n (pc' := 61) (by decide) dX11_knownHere_60 rfl rfl rfl ?_
        refine e_r_iconst (pc' := 62) dX11_knownHere_61 rfl (by decide) ?_
        refine e_r_bipush (pc' := 64) dX11_knownHere_62 rfl (by decide) ?_
        refine e_r_bipush (pc' := 66) dX11_knownHere_64 rfl (by decide) ?_
        refine e_r_bipush (pc' := 68) dX11_knownHere_66 rfl (by decide) ?_
        refine e_r_bipush (pc' := 70) dX11_knownHere_68 rfl (by decide) ?_
        refine e_r_iconst (pc' := 71) dX11_knownHere_70 rfl (by decide) ?_
        obtain ⟨r20, N19, he21, h⟩ := h
        refine e_r_callV (a := 64) (av := [.inl 3, .inl 15, .inl 9, .inl 14, .inl 19, .inl 0]) (st := []) mqYX11_takes ml_RX11_220 cl_11 rfl (Nat.le_of_ble_eq_true rfl) (by simp [e_cat]) rfl rfl rfl dX11_knownHere_71 (pc' := 74) rfl he21 ⟨Nat.le_refl _, Nat.le_refl _⟩ hmo ?_
        obtain ⟨ht22, hf23⟩ := h
        refine e_r_if_eq (tgt := 79) (pc' := 77) dX11_knownHere_74 rfl rfl (fun c => ?_) (fun c => ?_)
        · have h := ht22 c
          refine e_r_aload_n (pc' := 80) (by decide) dX11_knownHere_79 rfl rfl rfl ?_
          refine e_r_bipush (pc' := 82) dX11_knownHere_80 rfl (by decide) ?_
          refine e_r_iconst (pc' := 83) dX11_knownHere_82 rfl (by decide) ?_
          refine e_r_bipush (pc' := 85) dX11_knownHere_83 rfl (by decide) ?_
          refine e_r_iconst (pc' := 86) dX11_knownHere_85 rfl (by decide) ?_
          refine e_r_iconst (pc' := 87) dX11_knownHere_86 rfl (by decide) ?_
          refine e_r_iconst (pc' := 88) dX11_knownHere_87 rfl (by decide) ?_
          obtain ⟨r25, N24, he26, h⟩ := h
          refine e_r_callV (a := 64) (av := [.inl 23, .inl 1, .inl 7, .inl 5, .inl 0, .inl 0]) (st := []) mqYX11_takes ml_RX11_220 cl_11 rfl (Nat.le_of_ble_eq_true rfl) (by simp [e_cat]) rfl rfl rfl dX11_knownHere_88 (pc' := 91) rfl he26 ⟨Nat.le_refl _, Nat.le_refl _⟩ hmo ?_
          obtain ⟨ht27, hf28⟩ := h
          refine e_r_if_eq (tgt := 96) (pc' := 94) dX11_knownHere_91 rfl rfl (fun c => ?_) (fun c => ?_)
          · have h := ht27 c
            refine e_r_aload_n (pc' := 97) (by decide) dX11_knownHere_96 rfl rfl rfl ?_
            refine e_r_bipush (pc' := 99) dX11_knownHere_97 rfl (by decide) ?_
            refine e_r_iconst (pc' := 100) dX11_knownHere_99 rfl (by decide) ?_
            refine e_r_iconst (pc' := 101) dX11_knownHere_100 rfl (by decide) ?_
            refine e_r_iconst (pc' := 102) dX11_knownHere_101 rfl (by decide) ?_
            refine e_r_iconst (pc' := 103) dX11_knownHere_102 rfl (by decide) ?_
            refine e_r_iconst (pc' := 104) dX11_knownHere_103 rfl (by decide) ?_
            obtain ⟨r30, N29, he31, h⟩ := h
            refine e_r_callV (a := 64) (av := [.inl 14, .inl 5, .inl 5, .inl 4, .inl 5, .inl 4]) (st := []) mqYX11_takes ml_RX11_220 cl_11 rfl (Nat.le_of_ble_eq_true rfl) (by simp [e_cat]) rfl rfl rfl dX11_knownHere_104 (pc' := 107) rfl he31 ⟨Nat.le_refl _, Nat.le_refl _⟩ hmo ?_
            obtain ⟨ht32, hf33⟩ := h
            refine e_r_if_eq (tgt := 112) (pc' := 110) dX11_knownHere_107 rfl rfl (fun c => ?_) (fun c => ?_)
            · have h := ht32 c
              refine e_r_aload_n (pc' := 113) (by decide) dX11_knownHere_112 rfl rfl rfl ?_
              refine e_r_bipush (pc' := 115) dX11_knownHere_113 rfl (by decide) ?_
              refine e_r_iconst (pc' := 116) dX11_knownHere_115 rfl (by decide) ?_
              refine e_r_bipush (pc' := 118) dX11_knownHere_116 rfl (by decide) ?_
              refine e_r_bipush (pc' := 120) dX11_knownHere_118 rfl (by decide) ?_
              refine e_r_bipush (pc' := 122) dX11_knownHere_120 rfl (by decide) ?_
              refine e_r_iconst (pc' := 123) dX11_knownHere_122 rfl (by decide) ?_
              obtain ⟨r35, N34, he36, h⟩ := h
              refine e_r_callV (a := 64) (av := [.inl 20, .inl 1, .inl 19, .inl 11, .inl 19, .inl 0]) (st := []) mqYX11_takes ml_RX11_220 cl_11 rfl (Nat.le_of_ble_eq_true rfl) (by simp [e_cat]) rfl rfl rfl dX11_knownHere_123 (pc' := 126) rfl he36 ⟨Nat.le_refl _, Nat.le_refl _⟩ hmo ?_
              obtain ⟨ht37, hf38⟩ := h
              refine e_r_if_eq (tgt := 132) (pc' := 129) dX11_knownHere_126 rfl rfl (fun c => ?_) (fun c => ?_)
              · have h := ht37 c
                refine e_r_aload_n (pc' := 133) (by decide) dX11_knownHere_132 rfl rfl rfl ?_
                refine e_r_bipush (pc' := 135) dX11_knownHere_133 rfl (by decide) ?_
                refine e_r_iconst (pc' := 136) dX11_knownHere_135 rfl (by decide) ?_
                refine e_r_bipush (pc' := 138) dX11_knownHere_136 rfl (by decide) ?_
                refine e_r_bipush (pc' := 140) dX11_knownHere_138 rfl (by decide) ?_
                refine e_r_bipush (pc' := 142) dX11_knownHere_140 rfl (by decide) ?_
                refine e_r_bipush (pc' := 144) dX11_knownHere_142 rfl (by decide) ?_
                obtain ⟨r40, N39, he41, h⟩ := h
                refine e_r_callV (a := 64) (av := [.inl 16, .inl 5, .inl 18, .inl 19, .inl 15, .inl 14]) (st := []) mqYX11_takes ml_RX11_220 cl_11 rfl (Nat.le_of_ble_eq_true rfl) (by simp [e_cat]) rfl rfl rfl dX11_knownHere_144 (pc' := 147) rfl he41 ⟨Nat.le_refl _, Nat.le_refl _⟩ hmo ?_
                obtain ⟨ht42, hf43⟩ := h
                refine e_r_if_eq (tgt := 155) (pc' := 150) dX11_knownHere_147 rfl rfl (fun c => ?_) (fun c => ?_)
                · have h := ht42 c
                  refine e_r_iconst (pc' := 156) dX11_knownHere_155 rfl (by decide) ?_
                  exact e_r_iret (ty := .int) rfl (e_nI _) dX11_knownHere_156 h
                · have h := hf43 c
                  refine e_r_bipush (pc' := 152) dX11_knownHere_150 rfl (by decide) ?_
                  refine e_r_goto (pc' := 156) dX11_knownHere_152 rfl ?_
                  exact e_r_iret (ty := .int) rfl (e_nI _) dX11_knownHere_156 h
              · have h := hf38 c
                refine e_r_bipush (pc' := 131) dX11_knownHere_129 rfl (by decide) ?_
                exact e_r_iret (ty := .int) rfl (e_nI _) dX11_knownHere_131 h
            · have h := hf33 c
              refine e_r_iconst (pc' := 111) dX11_knownHere_110 rfl (by decide) ?_
              exact e_r_iret (ty := .int) rfl (e_nI _) dX11_knownHere_111 h
          · have h := hf28 c
            refine e_r_iconst (pc' := 95) dX11_knownHere_94 rfl (by decide) ?_
            exact e_r_iret (ty := .int) rfl (e_nI _) dX11_knownHere_95 h
        · have h := hf23 c
          refine e_r_iconst (pc' := 78) dX11_knownHere_77 rfl (by decide) ?_
          exact e_r_iret (ty := .int) rfl (e_nI _) dX11_knownHere_78 h
      · have h := hf18 c
        refine e_r_iconst (pc' := 59) dX11_knownHere_58 rfl (by decide) ?_
        exact e_r_iret (ty := .int) rfl (e_nI _) dX11_knownHere_59 h
    · have h := hf10 c
      refine e_r_iconst (pc' := 34) dX11_knownHere_33 rfl (by decide) ?_
      exact e_r_iret (ty := .int) rfl (e_nI _) dX11_knownHere_34 h
  · have h := hf5 c
    refine e_r_iconst (pc' := 16) dX11_knownHere_15 rfl (by decide) ?_
    exact e_r_iret (ty := .int) rfl (e_nI _) dX11_knownHere_16 h
theorem wp_X11_one_0 {X : e_X} {d gn : Nat} {o : e_O} (M : e_M) (hmo : e_mn (557, gn, e_RF, M) o.2) (h : (((M 64 5) = 0 → (∃ N3 : e_M, e_E X d YX11_blanks [.inr (.inr 64)] (557, gn, e_RF, M) (.inl none, (557, gn, e_RF, N3)) ∧ (∃ (r6 : Int) (N5 : e_M), e_E X d YX11_isWord [.inr (.inr 64), .inl 12, .inl 5, .inl 1, .inl 19, .inl 20, .inl 0] (557, gn, e_RF, N3) (.inl (some (.inl r6)), (557, gn, e_RF, N5)) ∧ ((r6 = 0 → (∃ (r11 : Int) (N10 : e_M), e_E X d YX11_isWord [.inr (.inr 64), .inl 13, .inl 15, .inl 19, .inl 20, .inl 0, .inl 0] (557, gn, e_RF, N5) (.inl (some (.inl r11)), (557, gn, e_RF, N10)) ∧ ((r11 = 0 → e_G X (d + 1) YX11_one 56 [some (.inr (.inr 64)), none, none] [.inl (-1)] (557, gn, e_RF, N10) o) ∧ (¬ (r11 = 0) → e_G X (d + 1) YX11_one 56 [some (.inr (.inr 64)), none, none] [.inl 8] (557, gn, e_RF, N10) o)))) ∧ (¬ (r6 = 0) → e_G X (d + 1) YX11_one 56 [some (.inr (.inr 64)), none, none] [.inl 7] (557, gn, e_RF, N5) o))))) ∧ (¬ ((M 64 5) = 0) → (o = (.inl none, (557, gn, e_RF, M)))))) : e_G X (d + 1) YX11_one 0 [some (.inr (.inr 64)), none, none] [] (557, gn, e_RF, M) o := by
  refine e_r_aload_n (pc' := 1) (by decide) dX11_one_0 rfl rfl rfl ?_
  refine e_r_geti (k := 5) (pc' := 4) cl_11 rfl (Nat.le_of_ble_eq_true rfl) rfl rfl fl_RX11_113 dX11_one_1 rfl ?_
  obtain ⟨ht1, hf2⟩ := h
  refine e_r_if_eq (tgt := 8) (pc' := 7) dX11_one_4 rfl rfl (fun c => ?_) (fun c => ?_)
  · have h := ht1 c
    refine e_r_aload_n (pc' := 9) (by decide) dX11_one_8 rfl rfl rfl ?_
    obtain ⟨N3, he4, h⟩ := h
    refine e_r_callV (a := 64) (av := []) (st := []) mqYX11_blanks ml_RX11_119 cl_11 rfl (Nat.le_of_ble_eq_true rfl) (by simp [e_cat]) rfl rfl rfl dX11_one_9 (pc' := 12) rfl he4 ⟨Nat.le_refl _, Nat.le_refl _⟩ hmo ?_
    refine e_r_aload_n (pc' := 13) (by decide) dX11_one_12 rfl rfl rfl ?_
    refine e_r_bipush (pc' := 15) dX11_one_13 rfl (by decide) ?_
    refine e_r_iconst (pc' := 16) dX11_one_15 rfl (by decide) ?_
    refine e_r_iconst (pc' := 17) dX11_one_16 rfl (by decide) ?_
    refine e_r_bipush (pc' := 19) dX11_one_17 rfl (by decide) ?_
    refine e_r_bipush (pc' := 21) dX11_one_19 rfl (by decide) ?_
    refine e_r_iconst (pc' := 22) dX11_one_21 rfl (by decide) ?_
    obtain ⟨r6, N5, he7, h⟩ := h
    refine e_r_callV (a := 64) (av := [.inl 12, .inl 5, .inl 1, .inl 19, .inl 20, .inl 0]) (st := []) mqYX11_isWord ml_RX11_146 cl_11 rfl (Nat.le_of_ble_eq_true rfl) (by simp [e_cat]) rfl rfl rfl dX11_one_22 (pc' := 25) rfl he7 ⟨Nat.le_refl _, Nat.le_refl _⟩ hmo ?_
    obtain ⟨ht8, hf9⟩ := h
    refine e_r_if_eq (tgt := 33) (pc' := 28) dX11_one_25 rfl rfl (fun c => ?_) (fun c => ?_)
    · have h := ht8 c
      refine e_r_aload_n (pc' := 34) (by decide) dX11_one_33 rfl rfl rfl ?_
      refine e_r_bipush (pc' := 36) dX11_one_34 rfl (by decide) ?_
      refine e_r_bipush (pc' := 38) dX11_one_36 rfl (by decide) ?_
      refine e_r_bipush (pc' := 40) dX11_one_38 rfl (by decide) ?_
      refine e_r_bipush (pc' := 42) dX11_one_40 rfl (by decide) ?_
      refine e_r_iconst (pc' := 43) dX11_one_42 rfl (by decide) ?_
      refine e_r_iconst (pc' := 44) dX11_one_43 rfl (by decide) ?_
      obtain ⟨r11, N10, he12, h⟩ := h
      refine e_r_callV (a := 64) (av := [.inl 13, .inl 15, .inl 19, .inl 20, .inl 0, .inl 0]) (st := []) mqYX11_isWord ml_RX11_146 cl_11 rfl (Nat.le_of_ble_eq_true rfl) (by simp [e_cat]) rfl rfl rfl dX11_one_44 (pc' := 47) rfl he12 ⟨Nat.le_refl _, Nat.le_refl _⟩ hmo ?_
      obtain ⟨ht13, hf14⟩ := h
      refine e_r_if_eq (tgt := 55) (pc' := 50) dX11_one_47 rfl rfl (fun c => ?_) (fun c => ?_)
      · have h := ht13 c
        refine e_r_iconst (pc' := 56) dX11_one_55 rfl (by decide) ?_
        exact h
      · have h := hf14 c
        refine e_r_bipush (pc' := 52) dX11_one_50 rfl (by decide) ?_
        refine e_r_goto (pc' := 56) dX11_one_52 rfl ?_
        exact h
    · have h := hf9 c
      refine e_r_bipush (pc' := 30) dX11_one_28 rfl (by decide) ?_
      refine e_r_goto (pc' := 56) dX11_one_30 rfl ?_
      exact h
  · have h := hf2 c
    exact e_r_vret rfl dX11_one_7 h
theorem wp_X11_one_56 {X : e_X} {d gn : Nat} {o : e_O} (M : e_M) (w0 : Int) (hmo : e_mn (557, gn, e_RF, M) o.2) (h : ((w0 = (-1) → (∃ (r4 : Int) (N3 : e_M), e_E X d YX11_byteAt [.inr (.inr 64), .inl (M 64 4)] (557, gn, e_RF, M) (.inl (some (.inl r4)), (557, gn, e_RF, N3)) ∧ ((¬ r4 = 40 → (∃ (r9 : Int) (N8 : e_M), e_E X d YX11_knownHere [.inr (.inr 64)] (557, gn, e_RF, N3) (.inl (some (.inl r9)), (557, gn, e_RF, N8)) ∧ ((r9 = (-1) → (∃ (r14 : Int) (N13 : e_M), e_E X d YX11_number [.inr (.inr 64), .inl 0, .inl 999] (557, gn, e_RF, N8) (.inl (some (.inl r14)), (557, gn, e_RF, N13)) ∧ (∃ N16 : e_M, e_E X d YX11_notes [.inr (.inr 64), .inl 0, .inl r14] (557, gn, e_RF, N13) (.inl none, (557, gn, e_RF, N16)) ∧ (o = (.inl none, (557, gn, e_RF, N16)))))) ∧ (¬ (r9 = (-1)) → (∃ N18 : e_M, e_E X d YX11_notes [.inr (.inr 64), .inl 1, .inl r9] (557, gn, e_RF, N8) (.inl none, (557, gn, e_RF, N18)) ∧ (o = (.inl none, (557, gn, e_RF, N18)))))))) ∧ (r4 = 40 → (∃ (r21 : Int) (N20 : e_M), e_E X d YX11_opensOne [.inr (.inr 64)] (557, gn, e_RF, N3) (.inl (some (.inl r21)), (557, gn, e_RF, N20)) ∧ ((¬ r21 = 0 → (∃ N25 : e_M, e_E X d YX11_sum [.inr (.inr 64)] (557, gn, e_RF, (e_up N20 64 4 (e_w ((N20 64 4) + 1)))) (.inl none, (557, gn, e_RF, N25)) ∧ (∃ N27 : e_M, e_E X d YX11_sign [.inr (.inr 64), .inl 41] (557, gn, e_RF, N25) (.inl none, (557, gn, e_RF, N27)) ∧ (o = (.inl none, (557, gn, e_RF, (e_up N27 64 8 (e_w ((N27 64 8) - 1))))))))) ∧ (r21 = 0 → (o = (.inl none, (557, gn, e_RF, N20)))))))))) ∧ (¬ (w0 = (-1)) → (∃ (r30 : Int) (N29 : e_M), e_E X d YX11_opensOne [.inr (.inr 64)] (557, gn, e_RF, M) (.inl (some (.inl r30)), (557, gn, e_RF, N29)) ∧ ((¬ r30 = 0 → (∃ N34 : e_M, e_E X d YX11_skipWord [.inr (.inr 64)] (557, gn, e_RF, N29) (.inl none, (557, gn, e_RF, N34)) ∧ (∃ N36 : e_M, e_E X d YX11_sign [.inr (.inr 64), .inl 91] (557, gn, e_RF, N34) (.inl none, (557, gn, e_RF, N36)) ∧ (∃ N38 : e_M, e_E X d YX11_sum [.inr (.inr 64)] (557, gn, e_RF, N36) (.inl none, (557, gn, e_RF, N38)) ∧ (∃ N40 : e_M, e_E X d YX11_sign [.inr (.inr 64), .inl 44] (557, gn, e_RF, N38) (.inl none, (557, gn, e_RF, N40)) ∧ (∃ N42 : e_M, e_E X d YX11_sum [.inr (.inr 64)] (557, gn, e_RF, N40) (.inl none, (557, gn, e_RF, N42)) ∧ (∃ N44 : e_M, e_E X d YX11_sign [.inr (.inr 64), .inl 93] (557, gn, e_RF, N42) (.inl none, (557, gn, e_RF, N44)) ∧ (∃ N46 : e_M, e_E X d YX11_notes [.inr (.inr 64), .inl w0, .inl 0] (557, gn, e_RF, N44) (.inl none, (557, gn, e_RF, N46)) ∧ (o = (.inl none, (557, gn, e_RF, (e_up N46 64 8 (e_w ((N46 64 8) - 1)))))))))))))) ∧ (r30 = 0 → (o = (.inl none, (557, gn, e_RF, N29))))))))) : e_G X (d + 1) YX11_one 56 [some (.inr (.inr 64)), none, none] [.inl w0] (557, gn, e_RF, M) o := by
  refine e_r_istore_n (pc' := 57) (loc' := [some (.inr (.inr 64)), some (.inl w0), none]) dX11_one_56 rfl rfl rfl rfl rfl ?_
  refine e_r_iload_n (pc' := 58) dX11_one_57 rfl rfl rfl ?_
  refine e_r_iconst (pc' := 59) dX11_one_58 rfl (by decide) ?_
  obtain ⟨ht1, hf2⟩ := h
  refine e_r_icmp_eq (tgt := 117) (pc' := 62) dX11_one_59 rfl rfl (fun c => ?_) (fun c => ?_)
  · have h := ht1 c
    refine e_r_aload_n (pc' := 118) (by decide) dX11_one_117 rfl rfl rfl ?_
    refine e_r_aload_n (pc' := 119) (by decide) dX11_one_118 rfl rfl rfl ?_
    refine e_r_geti (k := 4) (pc' := 122) cl_11 rfl (Nat.le_of_ble_eq_true rfl) rfl rfl fl_RX11_106 dX11_one_119 rfl ?_
    obtain ⟨r4, N3, he5, h⟩ := h
    refine e_r_callV (a := 64) (av := [.inl (M 64 4)]) (st := []) mqYX11_byteAt ml_RX11_109 cl_11 rfl (Nat.le_of_ble_eq_true rfl) (by simp [e_cat]) rfl rfl rfl dX11_one_122 (pc' := 125) rfl he5 ⟨Nat.le_refl _, Nat.le_refl _⟩ hmo ?_
    refine e_r_bipush (pc' := 127) dX11_one_125 rfl (by decide) ?_
    obtain ⟨ht6, hf7⟩ := h
    refine e_r_icmp_ne (tgt := 169) (pc' := 130) dX11_one_127 rfl rfl (fun c => ?_) (fun c => ?_)
    · have h := ht6 c
      refine e_r_aload_n (pc' := 170) (by decide) dX11_one_169 rfl rfl rfl ?_
      obtain ⟨r9, N8, he10, h⟩ := h
      refine e_r_callV (a := 64) (av := []) (st := []) mqYX11_knownHere ml_RX11_234 cl_11 rfl (Nat.le_of_ble_eq_true rfl) (by simp [e_cat]) rfl rfl rfl dX11_one_170 (pc' := 173) rfl he10 ⟨Nat.le_refl _, Nat.le_refl _⟩ hmo ?_
      refine e_r_istore_n (pc' := 174) (loc' := [some (.inr (.inr 64)), some (.inl w0), some (.inl r9)]) dX11_one_173 rfl rfl rfl rfl rfl ?_
      refine e_r_iload_n (pc' := 175) dX11_one_174 rfl rfl rfl ?_
      refine e_r_iconst (pc' := 176) dX11_one_175 rfl (by decide) ?_
      obtain ⟨ht11, hf12⟩ := h
      refine e_r_icmp_eq (tgt := 188) (pc' := 179) dX11_one_176 rfl rfl (fun c => ?_) (fun c => ?_)
      · have h := ht11 c
        refine e_r_aload_n (pc' := 189) (by decide) dX11_one_188 rfl rfl rfl ?_
        refine e_r_iconst (pc' := 190) dX11_one_189 rfl (by decide) ?_
        refine e_r_aload_n (pc' := 191) (by decide) dX11_one_190 rfl rfl rfl ?_
        refine e_r_iconst (pc' := 192) dX11_one_191 rfl (by decide) ?_
        refine e_r_sipush (pc' := 195) dX11_one_192 rfl (by decide) ?_
        obtain ⟨r14, N13, he15, h⟩ := h
        refine e_r_callV (a := 64) (av := [.inl 0, .inl 999]) (st := [.inl 0, .inr (.inr 64)]) mqYX11_number ml_RX11_165 cl_11 rfl (Nat.le_of_ble_eq_true rfl) (by simp [e_cat]) rfl rfl rfl dX11_one_195 (pc' := 198) rfl he15 ⟨Nat.le_refl _, Nat.le_refl _⟩ hmo ?_
        obtain ⟨N16, he17, h⟩ := h
        refine e_r_callV (a := 64) (av := [.inl 0, .inl r14]) (st := []) mqYX11_notes ml_RX11_214 cl_11 rfl (Nat.le_of_ble_eq_true rfl) (by simp [e_cat]) rfl rfl rfl dX11_one_198 (pc' := 201) rfl he17 ⟨Nat.le_refl _, Nat.le_refl _⟩ hmo ?_
        exact e_r_vret rfl dX11_one_201 h
      · have h := hf12 c
        refine e_r_aload_n (pc' := 180) (by decide) dX11_one_179 rfl rfl rfl ?_
        refine e_r_iconst (pc' := 181) dX11_one_180 rfl (by decide) ?_
        refine e_r_iload_n (pc' := 182) dX11_one_181 rfl rfl rfl ?_
        obtain ⟨N18, he19, h⟩ := h
        refine e_r_callV (a := 64) (av := [.inl 1, .inl r9]) (st := []) mqYX11_notes ml_RX11_214 cl_11 rfl (Nat.le_of_ble_eq_true rfl) (by simp [e_cat]) rfl rfl rfl dX11_one_182 (pc' := 185) rfl he19 ⟨Nat.le_refl _, Nat.le_refl _⟩ hmo ?_
        refine e_r_goto (pc' := 201) dX11_one_185 rfl ?_
        exact e_r_vret rfl dX11_one_201 h
    · have h := hf7 c
      refine e_r_aload_n (pc' := 131) (by decide) dX11_one_130 rfl rfl rfl ?_
      obtain ⟨r21, N20, he22, h⟩ := h
      refine e_r_callV (a := 64) (av := []) (st := []) mqYX11_opensOne ml_RX11_227 cl_11 rfl (Nat.le_of_ble_eq_true rfl) (by simp [e_cat]) rfl rfl rfl dX11_one_131 (pc' := 134) rfl he22 ⟨Nat.le_refl _, Nat.le_refl _⟩ hmo ?_
      obtain ⟨ht23, hf24⟩ := h
      refine e_r_if_ne (tgt := 138) (pc' := 137) dX11_one_134 rfl rfl (fun c => ?_) (fun c => ?_)
      · have h := ht23 c
        refine e_r_aload_n (pc' := 139) (by decide) dX11_one_138 rfl rfl rfl ?_
        refine e_r_dup (pc' := 140) rfl dX11_one_139 rfl ?_
        refine e_r_geti (k := 4) (pc' := 143) cl_11 rfl (Nat.le_of_ble_eq_true rfl) rfl rfl fl_RX11_106 dX11_one_140 rfl ?_
        refine e_r_iconst (pc' := 144) dX11_one_143 rfl (by decide) ?_
        refine e_r_iadd (pc' := 145) dX11_one_144 rfl ?_
        refine e_r_puti (k := 4) (pc' := 148) cl_11 rfl (Nat.le_of_ble_eq_true rfl) rfl rfl fl_RX11_106 rfl (by decide +kernel) dX11_one_145 rfl ?_
        refine e_r_aload_n (pc' := 149) (by decide) dX11_one_148 rfl rfl rfl ?_
        obtain ⟨N25, he26, h⟩ := h
        refine e_r_callV (a := 64) (av := []) (st := []) mqYX11_sum ml_RX11_231 cl_11 rfl (Nat.le_of_ble_eq_true rfl) (by simp [e_cat]) rfl rfl rfl dX11_one_149 (pc' := 152) rfl he26 ⟨Nat.le_refl _, Nat.le_refl _⟩ hmo ?_
        refine e_r_aload_n (pc' := 153) (by decide) dX11_one_152 rfl rfl rfl ?_
        refine e_r_bipush (pc' := 155) dX11_one_153 rfl (by decide) ?_
        obtain ⟨N27, he28, h⟩ := h
        refine e_r_callV (a := 64) (av := [.inl 41]) (st := []) mqYX11_sign ml_RX11_169 cl_11 rfl (Nat.le_of_ble_eq_true rfl) (by simp [e_cat]) rfl rfl rfl dX11_one_155 (pc' := 158) rfl he28 ⟨Nat.le_refl _, Nat.le_refl _⟩ hmo ?_
        refine e_r_aload_n (pc' := 159) (by decide) dX11_one_158 rfl rfl rfl ?_
        refine e_r_dup (pc' := 160) rfl dX11_one_159 rfl ?_
        refine e_r_geti (k := 8) (pc' := 163) cl_11 rfl (Nat.le_of_ble_eq_true rfl) rfl rfl fl_RX11_156 dX11_one_160 rfl ?_
        refine e_r_iconst (pc' := 164) dX11_one_163 rfl (by decide) ?_
        refine e_r_isub (pc' := 165) dX11_one_164 rfl ?_
        refine e_r_puti (k := 8) (pc' := 168) cl_11 rfl (Nat.le_of_ble_eq_true rfl) rfl rfl fl_RX11_156 rfl (by decide +kernel) dX11_one_165 rfl ?_
        exact e_r_vret rfl dX11_one_168 h
      · have h := hf24 c
        exact e_r_vret rfl dX11_one_137 h
  · have h := hf2 c
    refine e_r_aload_n (pc' := 63) (by decide) dX11_one_62 rfl rfl rfl ?_
    obtain ⟨r30, N29, he31, h⟩ := h
    refine e_r_callV (a := 64) (av := []) (st := []) mqYX11_opensOne ml_RX11_227 cl_11 rfl (Nat.le_of_ble_eq_true rfl) (by simp [e_cat]) rfl rfl rfl dX11_one_63 (pc' := 66) rfl he31 ⟨Nat.le_refl _, Nat.le_refl _⟩ hmo ?_
    obtain ⟨ht32, hf33⟩ := h
    refine e_r_if_ne (tgt := 70) (pc' := 69) dX11_one_66 rfl rfl (fun c => ?_) (fun c => ?_)
    · have h := ht32 c
      refine e_r_aload_n (pc' := 71) (by decide) dX11_one_70 rfl rfl rfl ?_
      obtain ⟨N34, he35, h⟩ := h
      refine e_r_callV (a := 64) (av := []) (st := []) mqYX11_skipWord ml_RX11_150 cl_11 rfl (Nat.le_of_ble_eq_true rfl) (by simp [e_cat]) rfl rfl rfl dX11_one_71 (pc' := 74) rfl he35 ⟨Nat.le_refl _, Nat.le_refl _⟩ hmo ?_
      refine e_r_aload_n (pc' := 75) (by decide) dX11_one_74 rfl rfl rfl ?_
      refine e_r_bipush (pc' := 77) dX11_one_75 rfl (by decide) ?_
      obtain ⟨N36, he37, h⟩ := h
      refine e_r_callV (a := 64) (av := [.inl 91]) (st := []) mqYX11_sign ml_RX11_169 cl_11 rfl (Nat.le_of_ble_eq_true rfl) (by simp [e_cat]) rfl rfl rfl dX11_one_77 (pc' := 80) rfl he37 ⟨Nat.le_refl _, Nat.le_refl _⟩ hmo ?_
      refine e_r_aload_n (pc' := 81) (by decide) dX11_one_80 rfl rfl rfl ?_
      obtain ⟨N38, he39, h⟩ := h
      refine e_r_callV (a := 64) (av := []) (st := []) mqYX11_sum ml_RX11_231 cl_11 rfl (Nat.le_of_ble_eq_true rfl) (by simp [e_cat]) rfl rfl rfl dX11_one_81 (pc' := 84) rfl he39 ⟨Nat.le_refl _, Nat.le_refl _⟩ hmo ?_
      refine e_r_aload_n (pc' := 85) (by decide) dX11_one_84 rfl rfl rfl ?_
      refine e_r_bipush (pc' := 87) dX11_one_85 rfl (by decide) ?_
      obtain ⟨N40, he41, h⟩ := h
      refine e_r_callV (a := 64) (av := [.inl 44]) (st := []) mqYX11_sign ml_RX11_169 cl_11 rfl (Nat.le_of_ble_eq_true rfl) (by simp [e_cat]) rfl rfl rfl dX11_one_87 (pc' := 90) rfl he41 ⟨Nat.le_refl _, Nat.le_refl _⟩ hmo ?_
      refine e_r_aload_n (pc' := 91) (by decide) dX11_one_90 rfl rfl rfl ?_
      obtain ⟨N42, he43, h⟩ := h
      refine e_r_callV (a := 64) (av := []) (st := []) mqYX11_sum ml_RX11_231 cl_11 rfl (Nat.le_of_ble_eq_true rfl) (by simp [e_cat]) rfl rfl rfl dX11_one_91 (pc' := 94) rfl he43 ⟨Nat.le_refl _, Nat.le_refl _⟩ hmo ?_
      refine e_r_aload_n (pc' := 95) (by decide) dX11_one_94 rfl rfl rfl ?_
      refine e_r_bipush (pc' := 97) dX11_one_95 rfl (by decide) ?_
      obtain ⟨N44, he45, h⟩ := h
      refine e_r_callV (a := 64) (av := [.inl 93]) (st := []) mqYX11_sign ml_RX11_169 cl_11 rfl (Nat.le_of_ble_eq_true rfl) (by simp [e_cat]) rfl rfl rfl dX11_one_97 (pc' := 100) rfl he45 ⟨Nat.le_refl _, Nat.le_refl _⟩ hmo ?_
      refine e_r_aload_n (pc' := 101) (by decide) dX11_one_100 rfl rfl rfl ?_
      refine e_r_iload_n (pc' := 102) dX11_one_101 rfl rfl rfl ?_
      refine e_r_iconst (pc' := 103) dX11_one_102 rfl (by decide) ?_
      obtain ⟨N46, he47, h⟩ := h
      refine e_r_callV (a := 64) (av := [.inl w0, .inl 0]) (st := []) mqYX11_notes ml_RX11_214 cl_11 rfl (Nat.le_of_ble_eq_true rfl) (by simp [e_cat]) rfl rfl rfl dX11_one_103 (pc' := 106) rfl he47 ⟨Nat.le_refl _, Nat.le_refl _⟩ hmo ?_
      refine e_r_aload_n (pc' := 107) (by decide) dX11_one_106 rfl rfl rfl ?_
      refine e_r_dup (pc' := 108) rfl dX11_one_107 rfl ?_
      refine e_r_geti (k := 8) (pc' := 111) cl_11 rfl (Nat.le_of_ble_eq_true rfl) rfl rfl fl_RX11_156 dX11_one_108 rfl ?_
      refine e_r_iconst (pc' := 112) dX11_one_111 rfl (by decide) ?_
      refine e_r_isub (pc' := 113) dX11_one_112 rfl ?_
      refine e_r_puti (k := 8) (pc' := 116) cl_11 rfl (Nat.le_of_ble_eq_true rfl) rfl rfl fl_RX11_156 rfl (by decide +kernel) dX11_one_113 rfl ?_
      exact e_r_vret rfl dX11_one_116 h
    · have h := hf33 c
      exact e_r_vret rfl dX11_one_69 h
theorem wp_X11_law_0 {X : e_X} {d gn : Nat} {o : e_O} (M : e_M) (p1 : Int) (hmo : e_mn (557, gn, e_RF, M) o.2) (h : (∃ (r2 : Int) (N1 : e_M), e_E X d YX11_in [.inl p1, .inl 0, .inl ((e_up M 64 0 0) 64 1)] (557, gn, e_RF, (e_up M 64 0 0)) (.inl (some (.inl r2)), (557, gn, e_RF, N1)) ∧ ((r2 = 0 → e_G X (d + 1) YX11_law 25 [some (.inr (.inr 64)), some (.inl p1)] [.inr (.inr 64)] (557, gn, e_RF, N1) o) ∧ (¬ (r2 = 0) → ((p1 ≤ 150 → e_G X (d + 1) YX11_law 30 [some (.inr (.inr 64)), some (.inl p1)] [.inl 0, .inr (.inr 64)] (557, gn, e_RF, N1) o) ∧ (¬ (p1 ≤ 150) → e_G X (d + 1) YX11_law 25 [some (.inr (.inr 64)), some (.inl p1)] [.inr (.inr 64)] (557, gn, e_RF, N1) o)))))) : e_G X (d + 1) YX11_law 0 [some (.inr (.inr 64)), some (.inl p1)] [] (557, gn, e_RF, M) o := by
  refine e_r_aload_n (pc' := 1) (by decide) dX11_law_0 rfl rfl rfl ?_
  refine e_r_iconst (pc' := 2) dX11_law_1 rfl (by decide) ?_
  refine e_r_puti (k := 0) (pc' := 5) cl_11 rfl (Nat.le_of_ble_eq_true rfl) rfl rfl fl_RX11_97 rfl (by decide +kernel) dX11_law_2 rfl ?_
  refine e_r_aload_n (pc' := 6) (by decide) dX11_law_5 rfl rfl rfl ?_
  refine e_r_iload_n (pc' := 7) dX11_law_6 rfl rfl rfl ?_
  refine e_r_iconst (pc' := 8) dX11_law_7 rfl (by decide) ?_
  refine e_r_aload_n (pc' := 9) (by decide) dX11_law_8 rfl rfl rfl ?_
  refine e_r_geti (k := 1) (pc' := 12) cl_11 rfl (Nat.le_of_ble_eq_true rfl) rfl rfl fl_RX11_100 dX11_law_9 rfl ?_
  obtain ⟨r2, N1, he3, h⟩ := h
  refine e_r_callS (av := [.inl p1, .inl 0, .inl ((e_up M 64 0 0) 64 1)]) (st := [.inr (.inr 64)]) mqYX11_in ml_RX11_131 (by simp [e_cat]) rfl rfl rfl dX11_law_12 (pc' := 15) rfl he3 ⟨Nat.le_refl _, Nat.le_refl _⟩ hmo ?_
  obtain ⟨ht4, hf5⟩ := h
  refine e_r_if_eq (tgt := 25) (pc' := 18) dX11_law_15 rfl rfl (fun c => ?_) (fun c => ?_)
  · have h := ht4 c
    exact h
  · have h := hf5 c
    refine e_r_iload_n (pc' := 19) dX11_law_18 rfl rfl rfl ?_
    refine e_r_sipush (pc' := 22) dX11_law_19 rfl (by decide) ?_
    obtain ⟨ht6, hf7⟩ := h
    refine e_r_icmp_le (tgt := 29) (pc' := 25) dX11_law_22 rfl rfl (fun c => ?_) (fun c => ?_)
    · have h := ht6 c
      refine e_r_iconst (pc' := 30) dX11_law_29 rfl (by decide) ?_
      exact h
    · have h := hf7 c
      exact h
theorem wp_X11_law_30 {X : e_X} {d gn : Nat} {o : e_O} (M : e_M) (p1 w0 : Int) (hmo : e_mn (557, gn, e_RF, M) o.2) (h : (∃ (r2 : Int) (N1 : e_M), e_E X d YX11_bad [.inr (.inr 64), .inl w0, .inl 1, .inl 1] (557, gn, e_RF, M) (.inl (some (.inl r2)), (557, gn, e_RF, N1)) ∧ ((r2 = 0 → (∃ N6 : e_M, e_E X d YX11_starts [.inr (.inr 64), .inl p1] (557, gn, e_RF, N1) (.inl none, (557, gn, e_RF, N6)) ∧ (∃ N8 : e_M, e_E X d YX11_sum [.inr (.inr 64)] (557, gn, e_RF, (e_up N6 64 22 0)) (.inl none, (557, gn, e_RF, N8)) ∧ (∃ N10 : e_M, e_E X d YX11_blanks [.inr (.inr 64)] (557, gn, e_RF, N8) (.inl none, (557, gn, e_RF, N10)) ∧ ((¬ (N10 64 5) = 0 → e_G X (d + 1) YX11_law 85 [some (.inr (.inr 64)), some (.inl p1)] [] (557, gn, e_RF, N10) o) ∧ ((N10 64 5) = 0 → (((N10 64 2) ≤ (N10 64 4) → e_G X (d + 1) YX11_law 85 [some (.inr (.inr 64)), some (.inl p1)] [] (557, gn, e_RF, N10) o) ∧ (¬ ((N10 64 2) ≤ (N10 64 4)) → (∃ N16 : e_M, e_E X d YX11_wrong [.inr (.inr 64), .inl 1, .inl (N10 64 4)] (557, gn, e_RF, N10) (.inl none, (557, gn, e_RF, N16)) ∧ e_G X (d + 1) YX11_law 85 [some (.inr (.inr 64)), some (.inl p1)] [] (557, gn, e_RF, N16) o))))))))) ∧ (¬ (r2 = 0) → (o = (.inl (some (.inl 0)), (557, gn, e_RF, N1))))))) : e_G X (d + 1) YX11_law 30 [some (.inr (.inr 64)), some (.inl p1)] [.inl w0, .inr (.inr 64)] (557, gn, e_RF, M) o := by
  refine e_r_iconst (pc' := 31) dX11_law_30 rfl (by decide) ?_
  refine e_r_iconst (pc' := 32) dX11_law_31 rfl (by decide) ?_
  obtain ⟨r2, N1, he3, h⟩ := h
  refine e_r_callV (a := 64) (av := [.inl w0, .inl 1, .inl 1]) (st := []) mqYX11_bad ml_RX11_173 cl_11 rfl (Nat.le_of_ble_eq_true rfl) (by simp [e_cat]) rfl rfl rfl dX11_law_32 (pc' := 35) rfl he3 ⟨Nat.le_refl _, Nat.le_refl _⟩ hmo ?_
  obtain ⟨ht4, hf5⟩ := h
  refine e_r_if_eq (tgt := 40) (pc' := 38) dX11_law_35 rfl rfl (fun c => ?_) (fun c => ?_)
  · have h := ht4 c
    refine e_r_aload_n (pc' := 41) (by decide) dX11_law_40 rfl rfl rfl ?_
    refine e_r_iload_n (pc' := 42) dX11_law_41 rfl rfl rfl ?_
    obtain ⟨N6, he7, h⟩ := h
    refine e_r_callV (a := 64) (av := [.inl p1]) (st := []) mqYX11_starts ml_RX11_177 cl_11 rfl (Nat.le_of_ble_eq_true rfl) (by simp [e_cat]) rfl rfl rfl dX11_law_42 (pc' := 45) rfl he7 ⟨Nat.le_refl _, Nat.le_refl _⟩ hmo ?_
    refine e_r_aload_n (pc' := 46) (by decide) dX11_law_45 rfl rfl rfl ?_
    refine e_r_iconst (pc' := 47) dX11_law_46 rfl (by decide) ?_
    refine e_r_puti (k := 22) (pc' := 50) cl_11 rfl (Nat.le_of_ble_eq_true rfl) rfl rfl fl_RX11_205 rfl (by decide +kernel) dX11_law_47 rfl ?_
    refine e_r_aload_n (pc' := 51) (by decide) dX11_law_50 rfl rfl rfl ?_
    obtain ⟨N8, he9, h⟩ := h
    refine e_r_callV (a := 64) (av := []) (st := []) mqYX11_sum ml_RX11_231 cl_11 rfl (Nat.le_of_ble_eq_true rfl) (by simp [e_cat]) rfl rfl rfl dX11_law_51 (pc' := 54) rfl he9 ⟨Nat.le_refl _, Nat.le_refl _⟩ hmo ?_
    refine e_r_aload_n (pc' := 55) (by decide) dX11_law_54 rfl rfl rfl ?_
    obtain ⟨N10, he11, h⟩ := h
    refine e_r_callV (a := 64) (av := []) (st := []) mqYX11_blanks ml_RX11_119 cl_11 rfl (Nat.le_of_ble_eq_true rfl) (by simp [e_cat]) rfl rfl rfl dX11_law_55 (pc' := 58) rfl he11 ⟨Nat.le_refl _, Nat.le_refl _⟩ hmo ?_
    refine e_r_aload_n (pc' := 59) (by decide) dX11_law_58 rfl rfl rfl ?_
    refine e_r_geti (k := 5) (pc' := 62) cl_11 rfl (Nat.le_of_ble_eq_true rfl) rfl rfl fl_RX11_113 dX11_law_59 rfl ?_
    obtain ⟨ht12, hf13⟩ := h
    refine e_r_if_ne (tgt := 85) (pc' := 65) dX11_law_62 rfl rfl (fun c => ?_) (fun c => ?_)
    · have h := ht12 c
      exact h
    · have h := hf13 c
      refine e_r_aload_n (pc' := 66) (by decide) dX11_law_65 rfl rfl rfl ?_
      refine e_r_geti (k := 4) (pc' := 69) cl_11 rfl (Nat.le_of_ble_eq_true rfl) rfl rfl fl_RX11_106 dX11_law_66 rfl ?_
      refine e_r_aload_n (pc' := 70) (by decide) dX11_law_69 rfl rfl rfl ?_
      refine e_r_geti (k := 2) (pc' := 73) cl_11 rfl (Nat.le_of_ble_eq_true rfl) rfl rfl fl_RX11_103 dX11_law_70 rfl ?_
      obtain ⟨ht14, hf15⟩ := h
      refine e_r_icmp_ge (tgt := 85) (pc' := 76) dX11_law_73 rfl rfl (fun c => ?_) (fun c => ?_)
      · have h := ht14 c
        exact h
      · have h := hf15 c
        refine e_r_aload_n (pc' := 77) (by decide) dX11_law_76 rfl rfl rfl ?_
        refine e_r_iconst (pc' := 78) dX11_law_77 rfl (by decide) ?_
        refine e_r_aload_n (pc' := 79) (by decide) dX11_law_78 rfl rfl rfl ?_
        refine e_r_geti (k := 4) (pc' := 82) cl_11 rfl (Nat.le_of_ble_eq_true rfl) rfl rfl fl_RX11_106 dX11_law_79 rfl ?_
        obtain ⟨N16, he17, h⟩ := h
        refine e_r_callV (a := 64) (av := [.inl 1, .inl (N10 64 4)]) (st := []) mqYX11_wrong ml_RX11_126 cl_11 rfl (Nat.le_of_ble_eq_true rfl) (by simp [e_cat]) rfl rfl rfl dX11_law_82 (pc' := 85) rfl he17 ⟨Nat.le_refl _, Nat.le_refl _⟩ hmo ?_
        exact h
  · have h := hf5 c
    refine e_r_iconst (pc' := 39) dX11_law_38 rfl (by decide) ?_
    exact e_r_iret (ty := .int) rfl (e_nI _) dX11_law_39 h
theorem wp_X11_law_85 {X : e_X} {d gn : Nat} {o : e_O} (M : e_M) (p1 : Int) (hmo : e_mn (557, gn, e_RF, M) o.2) (h : (((M 64 5) = 0 → (∃ N3 : e_M, e_E X d YX11_lays [.inr (.inr 274), .inr (.inr 113), .inl ((e_up (e_up M 64 3 (-1)) 64 21 ((e_up M 64 3 (-1)) 64 22)) 64 21)] (557, gn, e_RF, (e_up (e_up M 64 3 (-1)) 64 21 ((e_up M 64 3 (-1)) 64 22))) (.inl none, (557, gn, e_RF, N3)) ∧ (o = (.inl (some (.inl 1)), (557, gn, e_RF, N3))))) ∧ (¬ ((M 64 5) = 0) → (∃ (r6 : Int) (N5 : e_M), e_E X d YX11_ends [.inr (.inr 64)] (557, gn, e_RF, M) (.inl (some (.inl r6)), (557, gn, e_RF, N5)) ∧ (o = (.inl (some (.inl r6)), (557, gn, e_RF, N5))))))) : e_G X (d + 1) YX11_law 85 [some (.inr (.inr 64)), some (.inl p1)] [] (557, gn, e_RF, M) o := by
  refine e_r_aload_n (pc' := 86) (by decide) dX11_law_85 rfl rfl rfl ?_
  refine e_r_geti (k := 5) (pc' := 89) cl_11 rfl (Nat.le_of_ble_eq_true rfl) rfl rfl fl_RX11_113 dX11_law_86 rfl ?_
  obtain ⟨ht1, hf2⟩ := h
  refine e_r_if_eq (tgt := 97) (pc' := 92) dX11_law_89 rfl rfl (fun c => ?_) (fun c => ?_)
  · have h := ht1 c
    refine e_r_aload_n (pc' := 98) (by decide) dX11_law_97 rfl rfl rfl ?_
    refine e_r_iconst (pc' := 99) dX11_law_98 rfl (by decide) ?_
    refine e_r_puti (k := 3) (pc' := 102) cl_11 rfl (Nat.le_of_ble_eq_true rfl) rfl rfl fl_RX11_9 rfl (by decide +kernel) dX11_law_99 rfl ?_
    refine e_r_aload_n (pc' := 103) (by decide) dX11_law_102 rfl rfl rfl ?_
    refine e_r_aload_n (pc' := 104) (by decide) dX11_law_103 rfl rfl rfl ?_
    refine e_r_geti (k := 22) (pc' := 107) cl_11 rfl (Nat.le_of_ble_eq_true rfl) rfl rfl fl_RX11_205 dX11_law_104 rfl ?_
    refine e_r_puti (k := 21) (pc' := 110) cl_11 rfl (Nat.le_of_ble_eq_true rfl) rfl rfl fl_RX11_190 rfl (by decide +kernel) dX11_law_107 rfl ?_
    refine e_r_aload_n (pc' := 111) (by decide) dX11_law_110 rfl rfl rfl ?_
    refine e_r_getr (k := 24) (q := 274) (pc' := 114) cl_11 rfl (Nat.le_of_ble_eq_true rfl) rfl rfl fl_RX11_55 rfl (Nat.le_of_ble_eq_true rfl) dX11_law_111 rfl ?_
    refine e_r_aload_n (pc' := 115) (by decide) dX11_law_114 rfl rfl rfl ?_
    refine e_r_getr (k := 23) (q := 113) (pc' := 118) cl_11 rfl (Nat.le_of_ble_eq_true rfl) rfl rfl fl_RX11_52 rfl (Nat.le_of_ble_eq_true rfl) dX11_law_115 rfl ?_
    refine e_r_aload_n (pc' := 119) (by decide) dX11_law_118 rfl rfl rfl ?_
    refine e_r_geti (k := 21) (pc' := 122) cl_11 rfl (Nat.le_of_ble_eq_true rfl) rfl rfl fl_RX11_190 dX11_law_119 rfl ?_
    obtain ⟨N3, he4, h⟩ := h
    refine e_r_callS (av := [.inr (.inr 274), .inr (.inr 113), .inl ((e_up (e_up M 64 3 (-1)) 64 21 ((e_up M 64 3 (-1)) 64 22)) 64 21)]) (st := []) mqYX11_lays ml_RX11_186 (by simp [e_cat]) rfl rfl rfl dX11_law_122 (pc' := 125) rfl he4 ⟨Nat.le_refl _, Nat.le_refl _⟩ hmo ?_
    refine e_r_iconst (pc' := 126) dX11_law_125 rfl (by decide) ?_
    exact e_r_iret (ty := .int) rfl (e_nI _) dX11_law_126 h
  · have h := hf2 c
    refine e_r_aload_n (pc' := 93) (by decide) dX11_law_92 rfl rfl rfl ?_
    obtain ⟨r6, N5, he7, h⟩ := h
    refine e_r_callV (a := 64) (av := []) (st := []) mqYX11_ends ml_RX11_183 cl_11 rfl (Nat.le_of_ble_eq_true rfl) (by simp [e_cat]) rfl rfl rfl dX11_law_93 (pc' := 96) rfl he7 ⟨Nat.le_refl _, Nat.le_refl _⟩ hmo ?_
    exact e_r_iret (ty := .int) rfl (e_nI _) dX11_law_96 h
theorem wp_X11_law_25 {X : e_X} {d gn : Nat} {o : e_O} (M : e_M) (p1 : Int) (h : e_G X (d + 1) YX11_law 30 [some (.inr (.inr 64)), some (.inl p1)] [.inl 1, .inr (.inr 64)] (557, gn, e_RF, M) o) : e_G X (d + 1) YX11_law 25 [some (.inr (.inr 64)), some (.inl p1)] [.inr (.inr 64)] (557, gn, e_RF, M) o := by
  refine e_r_iconst (pc' := 26) dX11_law_25 rfl (by decide) ?_
  refine e_r_goto (pc' := 30) dX11_law_26 rfl ?_
  exact h
theorem wp_X11_by_0 {X : e_X} {d gn : Nat} {o : e_O} (M : e_M) (p0 p1 p2 : Int) (hmo : e_mn (557, gn, e_RF, M) o.2) (h : ((p0 = 2 → (o = (.inl (some (.inl (e_w (p1 + p2)))), (557, gn, e_RF, M)))) ∧ (p0 = 3 → (o = (.inl (some (.inl (e_w (p1 - p2)))), (557, gn, e_RF, M)))) ∧ (p0 = 4 → (o = (.inl (some (.inl (e_w (p1 * p2)))), (557, gn, e_RF, M)))) ∧ (p0 = 5 → ((¬ p2 = 0 → ((¬ p2 = (-1) → (p2 ≠ 0 ∧ (o = (.inl (some (.inl (e_w (Int.tdiv p1 p2)))), (557, gn, e_RF, M))))) ∧ (p2 = (-1) → (o = (.inl (some (.inl (e_w (-p1)))), (557, gn, e_RF, M)))))) ∧ (p2 = 0 → (o = (.inl (some (.inl 0)), (557, gn, e_RF, M)))))) ∧ (p0 = 6 → ((p2 = 0 → (o = (.inl (some (.inl 0)), (557, gn, e_RF, M)))) ∧ (¬ (p2 = 0) → ((¬ p2 = (-1) → (p2 ≠ 0 ∧ (o = (.inl (some (.inl (e_w (Int.tmod p1 p2)))), (557, gn, e_RF, M))))) ∧ (p2 = (-1) → (o = (.inl (some (.inl 0)), (557, gn, e_RF, M)))))))) ∧ (p0 = 7 → (∃ (r19 : Int) (N18 : e_M), e_E X d YX11_less [.inl p1, .inl p2] (557, gn, e_RF, M) (.inl (some (.inl r19)), (557, gn, e_RF, N18)) ∧ (o = (.inl (some (.inl r19)), (557, gn, e_RF, N18))))) ∧ (p0 < 2 ∨ 7 < p0 → (∃ (r22 : Int) (N21 : e_M), e_E X d YX11_more [.inl p1, .inl p2] (557, gn, e_RF, M) (.inl (some (.inl r22)), (557, gn, e_RF, N21)) ∧ (o = (.inl (some (.inl r22)), (557, gn, e_RF, N21))))))) : e_G X (d + 1) YX11_by 0 [some (.inl p0), some (.inl p1), some (.inl p2)] [] (557, gn, e_RF, M) o := by
  refine e_r_iload_n (pc' := 1) dX11_by_0 rfl rfl rfl ?_
  obtain ⟨hk1, hk2, hk3, hk4, hk5, hk6, hd7⟩ := h
  refine e_r_table (tgt := 97) dX11_by_1 rfl (fun j => bif Nat.beq j 0 then 40 else bif Nat.beq j 1 then 44 else bif Nat.beq j 2 then 48 else bif Nat.beq j 3 then 52 else bif Nat.beq j 4 then 74 else 91) (fun j hj => ?_) (fun j ej hj => ?_) (fun c => ?_)
  · rcases (show j = 0 ∨ j = 1 ∨ j = 2 ∨ j = 3 ∨ j = 4 ∨ j = 5 by omega) with rfl | rfl | rfl | rfl | rfl | rfl
    · exact ⟨39, rfl, rfl⟩
    · exact ⟨43, rfl, rfl⟩
    · exact ⟨47, rfl, rfl⟩
    · exact ⟨51, rfl, rfl⟩
    · exact ⟨73, rfl, rfl⟩
    · exact ⟨90, rfl, rfl⟩
  · rcases (show j = 0 ∨ j = 1 ∨ j = 2 ∨ j = 3 ∨ j = 4 ∨ j = 5 by omega) with rfl | rfl | rfl | rfl | rfl | rfl
    · have h := hk1 (by omega)
      show e_G X (d + 1) YX11_by 40 [some (.inl p0), some (.inl p1), some (.inl p2)] [] (557, gn, e_RF, M) o
      refine e_r_iload_n (pc' := 41) dX11_by_40 rfl rfl rfl ?_
      refine e_r_iload_n (pc' := 42) dX11_by_41 rfl rfl rfl ?_
      refine e_r_iadd (pc' := 43) dX11_by_42 rfl ?_
      exact e_r_iret (ty := .int) rfl (e_nI _) dX11_by_43 h
    · have h := hk2 (by omega)
      show e_G X (d + 1) YX11_by 44 [some (.inl p0), some (.inl p1), some (.inl p2)] [] (557, gn, e_RF, M) o
      refine e_r_iload_n (pc' := 45) dX11_by_44 rfl rfl rfl ?_
      refine e_r_iload_n (pc' := 46) dX11_by_45 rfl rfl rfl ?_
      refine e_r_isub (pc' := 47) dX11_by_46 rfl ?_
      exact e_r_iret (ty := .int) rfl (e_nI _) dX11_by_47 h
    · have h := hk3 (by omega)
      show e_G X (d + 1) YX11_by 48 [some (.inl p0), some (.inl p1), some (.inl p2)] [] (557, gn, e_RF, M) o
      refine e_r_iload_n (pc' := 49) dX11_by_48 rfl rfl rfl ?_
      refine e_r_iload_n (pc' := 50) dX11_by_49 rfl rfl rfl ?_
      refine e_r_imul (pc' := 51) dX11_by_50 rfl ?_
      exact e_r_iret (ty := .int) rfl (e_nI _) dX11_by_51 h
    · have h := hk4 (by omega)
      show e_G X (d + 1) YX11_by 52 [some (.inl p0), some (.inl p1), some (.inl p2)] [] (557, gn, e_RF, M) o
      refine e_r_iload_n (pc' := 53) dX11_by_52 rfl rfl rfl ?_
      obtain ⟨ht8, hf9⟩ := h
      refine e_r_if_ne (tgt := 60) (pc' := 56) dX11_by_53 rfl rfl (fun c => ?_) (fun c => ?_)
      · have h := ht8 c
        refine e_r_iload_n (pc' := 61) dX11_by_60 rfl rfl rfl ?_
        refine e_r_iconst (pc' := 62) dX11_by_61 rfl (by decide) ?_
        obtain ⟨ht10, hf11⟩ := h
        refine e_r_icmp_ne (tgt := 70) (pc' := 65) dX11_by_62 rfl rfl (fun c => ?_) (fun c => ?_)
        · have h := ht10 c
          refine e_r_iload_n (pc' := 71) dX11_by_70 rfl rfl rfl ?_
          refine e_r_iload_n (pc' := 72) dX11_by_71 rfl rfl rfl ?_
          obtain ⟨hz12, h⟩ := h
          refine e_r_idiv (pc' := 73) hz12 dX11_by_72 rfl ?_
          exact e_r_iret (ty := .int) rfl (e_nI _) dX11_by_73 h
        · have h := hf11 c
          refine e_r_iload_n (pc' := 66) dX11_by_65 rfl rfl rfl ?_
          refine e_r_ineg (pc' := 67) dX11_by_66 rfl ?_
          refine e_r_goto (pc' := 73) dX11_by_67 rfl ?_
          exact e_r_iret (ty := .int) rfl (e_nI _) dX11_by_73 h
      · have h := hf9 c
        refine e_r_iconst (pc' := 57) dX11_by_56 rfl (by decide) ?_
        refine e_r_goto (pc' := 73) dX11_by_57 rfl ?_
        exact e_r_iret (ty := .int) rfl (e_nI _) dX11_by_73 h
    · have h := hk5 (by omega)
      show e_G X (d + 1) YX11_by 74 [some (.inl p0), some (.inl p1), some (.inl p2)] [] (557, gn, e_RF, M) o
      refine e_r_iload_n (pc' := 75) dX11_by_74 rfl rfl rfl ?_
      obtain ⟨ht13, hf14⟩ := h
      refine e_r_if_eq (tgt := 83) (pc' := 78) dX11_by_75 rfl rfl (fun c => ?_) (fun c => ?_)
      · have h := ht13 c
        refine e_r_iconst (pc' := 84) dX11_by_83 rfl (by decide) ?_
        refine e_r_goto (pc' := 90) dX11_by_84 rfl ?_
        exact e_r_iret (ty := .int) rfl (e_nI _) dX11_by_90 h
      · have h := hf14 c
        refine e_r_iload_n (pc' := 79) dX11_by_78 rfl rfl rfl ?_
        refine e_r_iconst (pc' := 80) dX11_by_79 rfl (by decide) ?_
        obtain ⟨ht15, hf16⟩ := h
        refine e_r_icmp_ne (tgt := 87) (pc' := 83) dX11_by_80 rfl rfl (fun c => ?_) (fun c => ?_)
        · have h := ht15 c
          refine e_r_iload_n (pc' := 88) dX11_by_87 rfl rfl rfl ?_
          refine e_r_iload_n (pc' := 89) dX11_by_88 rfl rfl rfl ?_
          obtain ⟨hz17, h⟩ := h
          refine e_r_irem (pc' := 90) hz17 dX11_by_89 rfl ?_
          exact e_r_iret (ty := .int) rfl (e_nI _) dX11_by_90 h
        · have h := hf16 c
          refine e_r_iconst (pc' := 84) dX11_by_83 rfl (by decide) ?_
          refine e_r_goto (pc' := 90) dX11_by_84 rfl ?_
          exact e_r_iret (ty := .int) rfl (e_nI _) dX11_by_90 h
    · have h := hk6 (by omega)
      show e_G X (d + 1) YX11_by 91 [some (.inl p0), some (.inl p1), some (.inl p2)] [] (557, gn, e_RF, M) o
      refine e_r_iload_n (pc' := 92) dX11_by_91 rfl rfl rfl ?_
      refine e_r_iload_n (pc' := 93) dX11_by_92 rfl rfl rfl ?_
      obtain ⟨r19, N18, he20, h⟩ := h
      refine e_r_callS (av := [.inl p1, .inl p2]) (st := []) mqYX11_less ml_RX11_237 (by simp [e_cat]) rfl rfl rfl dX11_by_93 (pc' := 96) rfl he20 ⟨Nat.le_refl _, Nat.le_refl _⟩ hmo ?_
      exact e_r_iret (ty := .int) rfl (e_nI _) dX11_by_96 h
  · have h := hd7 c
    refine e_r_iload_n (pc' := 98) dX11_by_97 rfl rfl rfl ?_
    refine e_r_iload_n (pc' := 99) dX11_by_98 rfl rfl rfl ?_
    obtain ⟨r22, N21, he23, h⟩ := h
    refine e_r_callS (av := [.inl p1, .inl p2]) (st := []) mqYX11_more ml_RX11_240 (by simp [e_cat]) rfl rfl rfl dX11_by_99 (pc' := 102) rfl he23 ⟨Nat.le_refl _, Nat.le_refl _⟩ hmo ?_
    exact e_r_iret (ty := .int) rfl (e_nI _) dX11_by_102 h
theorem wp_X11_byLaw_0 {X : e_X} {d gn : Nat} {o : e_O} (M : e_M) (h : e_G X (d + 1) YX11_byLaw 27 [some (.inr (.inr 64)), some (.inl 0), some (.inl 0)] [] (557, gn, e_RF, (e_up M 449 0 (e_w ((e_w (5 + (e_w (3 * (M 450 1))))) + (M 450 2))))) o) : e_G X (d + 1) YX11_byLaw 0 [some (.inr (.inr 64)), none, none] [] (557, gn, e_RF, M) o := by
  refine e_r_iconst (pc' := 1) dX11_byLaw_0 rfl (by decide) ?_
  refine e_r_istore_n (pc' := 2) (loc' := [some (.inr (.inr 64)), some (.inl 0), none]) dX11_byLaw_1 rfl rfl rfl rfl rfl ?_
  refine e_r_aload_n (pc' := 3) (by decide) dX11_byLaw_2 rfl rfl rfl ?_
  refine e_r_getr (k := 27) (q := 449) (pc' := 6) cl_11 rfl (Nat.le_of_ble_eq_true rfl) rfl rfl fl_RX11_64 rfl (Nat.le_of_ble_eq_true rfl) dX11_byLaw_3 rfl ?_
  refine e_r_iconst (pc' := 7) dX11_byLaw_6 rfl (by decide) ?_
  refine e_r_iconst (pc' := 8) dX11_byLaw_7 rfl (by decide) ?_
  refine e_r_iconst (pc' := 9) dX11_byLaw_8 rfl (by decide) ?_
  refine e_r_aload_n (pc' := 10) (by decide) dX11_byLaw_9 rfl rfl rfl ?_
  refine e_r_getr (k := 28) (q := 450) (pc' := 13) cl_11 rfl (Nat.le_of_ble_eq_true rfl) rfl rfl fl_RX11_67 rfl (Nat.le_of_ble_eq_true rfl) dX11_byLaw_10 rfl ?_
  refine e_r_iconst (pc' := 14) dX11_byLaw_13 rfl (by decide) ?_
  refine e_r_iald (j9 := 1) (pc' := 15) rfl (Nat.le_of_ble_eq_true rfl) (by decide) (by decide) rfl dX11_byLaw_14 rfl ?_
  refine e_r_imul (pc' := 16) dX11_byLaw_15 rfl ?_
  refine e_r_iadd (pc' := 17) dX11_byLaw_16 rfl ?_
  refine e_r_aload_n (pc' := 18) (by decide) dX11_byLaw_17 rfl rfl rfl ?_
  refine e_r_getr (k := 28) (q := 450) (pc' := 21) cl_11 rfl (Nat.le_of_ble_eq_true rfl) rfl rfl fl_RX11_67 rfl (Nat.le_of_ble_eq_true rfl) dX11_byLaw_18 rfl ?_
  refine e_r_iconst (pc' := 22) dX11_byLaw_21 rfl (by decide) ?_
  refine e_r_iald (j9 := 2) (pc' := 23) rfl (Nat.le_of_ble_eq_true rfl) (by decide) (by decide) rfl dX11_byLaw_22 rfl ?_
  refine e_r_iadd (pc' := 24) dX11_byLaw_23 rfl ?_
  refine e_r_iast (j9 := 0) (pc' := 25) rfl (Nat.le_of_ble_eq_true rfl) (by decide) (by decide) rfl dX11_byLaw_24 rfl ?_
  refine e_r_iconst (pc' := 26) dX11_byLaw_25 rfl (by decide) ?_
  refine e_r_istore_n (pc' := 27) (loc' := [some (.inr (.inr 64)), some (.inl 0), some (.inl 0)]) dX11_byLaw_26 rfl rfl rfl rfl rfl ?_
  exact h
theorem wp_X11_byLaw_27 {X : e_X} {d gn : Nat} {o : e_O} (M : e_M) (v1 v2 : Int) (hmo : e_mn (557, gn, e_RF, M) o.2) (h : (((M 64 21) ≤ v2 → (∃ (r4 : Int) (N3 : e_M), e_E X d YX11_more [.inl 0, .inl (M 449 0)] (557, gn, e_RF, M) (.inl (some (.inl r4)), (557, gn, e_RF, N3)) ∧ (∃ (r7 : Int) (N6 : e_M), e_E X d YX11_less [.inl 99, .inl r4] (557, gn, e_RF, N3) (.inl (some (.inl r7)), (557, gn, e_RF, N6)) ∧ (o = (.inl (some (.inl r7)), (557, gn, e_RF, N6)))))) ∧ (¬ ((M 64 21) ≤ v2) → ((0 ≤ v2 ∧ v2 < 160) ∧ ((2 ≤ (M (114 + v2.toNat) 0) → ((0 ≤ v2 ∧ v2 < 160) ∧ ((0 ≤ (e_w ((e_w (v1 + (-1))) - 1)) ∧ (e_w ((e_w (v1 + (-1))) - 1)) < 160) ∧ ((0 ≤ (e_w (v1 + (-1))) ∧ (e_w (v1 + (-1))) < 160) ∧ (∃ (r16 : Int) (N15 : e_M), e_E X d YX11_by [.inl (M (114 + v2.toNat) 0), .inl (M 449 (e_w ((e_w (v1 + (-1))) - 1)).toNat), .inl (M 449 (e_w (v1 + (-1))).toNat)] (557, gn, e_RF, M) (.inl (some (.inl r16)), (557, gn, e_RF, N15)) ∧ ((0 ≤ (e_w ((e_w (v1 + (-1))) - 1)) ∧ (e_w ((e_w (v1 + (-1))) - 1)) < 160) ∧ e_G X (d + 1) YX11_byLaw 27 [some (.inr (.inr 64)), some (.inl (e_w (v1 + (-1)))), some (.inl (e_w (v2 + 1)))] [] (557, gn, e_RF, (e_up N15 449 (e_w ((e_w (v1 + (-1))) - 1)).toNat r16)) o)))))) ∧ (¬ (2 ≤ (M (114 + v2.toNat) 0)) → ((0 ≤ v2 ∧ v2 < 160) ∧ ((¬ (M (114 + v2.toNat) 0) = 0 → ((0 ≤ v2 ∧ v2 < 160) ∧ ((0 ≤ (M (114 + v2.toNat) 1) ∧ (M (114 + v2.toNat) 1) < 8) ∧ e_G X (d + 1) YX11_byLaw 87 [some (.inr (.inr 64)), some (.inl v1), some (.inl v2)] [.inl (M 450 (M (114 + v2.toNat) 1).toNat), .inl v1, .inr (.inr 449)] (557, gn, e_RF, M) o))) ∧ ((M (114 + v2.toNat) 0) = 0 → ((0 ≤ v2 ∧ v2 < 160) ∧ e_G X (d + 1) YX11_byLaw 87 [some (.inr (.inr 64)), some (.inl v1), some (.inl v2)] [.inl (M (114 + v2.toNat) 1), .inl v1, .inr (.inr 449)] (557, gn, e_RF, M) o)))))))))) : e_G X (d + 1) YX11_byLaw 27 [some (.inr (.inr 64)), some (.inl v1), some (.inl v2)] [] (557, gn, e_RF, M) o := by
  refine e_r_iload_n (pc' := 28) dX11_byLaw_27 rfl rfl rfl ?_
  refine e_r_aload_n (pc' := 29) (by decide) dX11_byLaw_28 rfl rfl rfl ?_
  refine e_r_geti (k := 21) (pc' := 32) cl_11 rfl (Nat.le_of_ble_eq_true rfl) rfl rfl fl_RX11_190 dX11_byLaw_29 rfl ?_
  obtain ⟨ht1, hf2⟩ := h
  refine e_r_icmp_ge (tgt := 136) (pc' := 35) dX11_byLaw_32 rfl rfl (fun c => ?_) (fun c => ?_)
  · have h := ht1 c
    refine e_r_bipush (pc' := 138) dX11_byLaw_136 rfl (by decide) ?_
    refine e_r_iconst (pc' := 139) dX11_byLaw_138 rfl (by decide) ?_
    refine e_r_aload_n (pc' := 140) (by decide) dX11_byLaw_139 rfl rfl rfl ?_
    refine e_r_getr (k := 27) (q := 449) (pc' := 143) cl_11 rfl (Nat.le_of_ble_eq_true rfl) rfl rfl fl_RX11_64 rfl (Nat.le_of_ble_eq_true rfl) dX11_byLaw_140 rfl ?_
    refine e_r_iconst (pc' := 144) dX11_byLaw_143 rfl (by decide) ?_
    refine e_r_iald (j9 := 0) (pc' := 145) rfl (Nat.le_of_ble_eq_true rfl) (by decide) (by decide) rfl dX11_byLaw_144 rfl ?_
    obtain ⟨r4, N3, he5, h⟩ := h
    refine e_r_callS (av := [.inl 0, .inl (M 449 0)]) (st := [.inl 99]) mqYX11_more ml_RX11_240 (by simp [e_cat]) rfl rfl rfl dX11_byLaw_145 (pc' := 148) rfl he5 ⟨Nat.le_refl _, Nat.le_refl _⟩ hmo ?_
    obtain ⟨r7, N6, he8, h⟩ := h
    refine e_r_callS (av := [.inl 99, .inl r4]) (st := []) mqYX11_less ml_RX11_237 (by simp [e_cat]) rfl rfl rfl dX11_byLaw_148 (pc' := 151) rfl he8 ⟨Nat.le_refl _, Nat.le_refl _⟩ hmo ?_
    exact e_r_iret (ty := .int) rfl (e_nI _) dX11_byLaw_151 h
  · have h := hf2 c
    refine e_r_aload_n (pc' := 36) (by decide) dX11_byLaw_35 rfl rfl rfl ?_
    refine e_r_getr (k := 23) (q := 113) (pc' := 39) cl_11 rfl (Nat.le_of_ble_eq_true rfl) rfl rfl fl_RX11_52 rfl (Nat.le_of_ble_eq_true rfl) dX11_byLaw_36 rfl ?_
    refine e_r_iload_n (pc' := 40) dX11_byLaw_39 rfl rfl rfl ?_
    obtain ⟨hb9, h⟩ := h
    refine e_r_aldr (q := (114 + v2.toNat)) (pc' := 41) rfl (Nat.le_of_ble_eq_true rfl) hb9.1 hb9.2 rfl (sh_113 hb9.1 hb9.2).2.1 dX11_byLaw_40 rfl ?_
    refine e_r_iconst (pc' := 42) dX11_byLaw_41 rfl (by decide) ?_
    refine e_r_iald (j9 := 0) (pc' := 43) (sh_113 hb9.1 hb9.2).1 (sh_113 hb9.1 hb9.2).2.1 (by decide) (by decide) rfl dX11_byLaw_42 rfl ?_
    refine e_r_iconst (pc' := 44) dX11_byLaw_43 rfl (by decide) ?_
    obtain ⟨ht10, hf11⟩ := h
    refine e_r_icmp_ge (tgt := 94) (pc' := 47) dX11_byLaw_44 rfl rfl (fun c => ?_) (fun c => ?_)
    · have h := ht10 c
      refine e_r_iinc (pc' := 97) (loc' := [some (.inr (.inr 64)), some (.inl (e_w (v1 + (-1)))), some (.inl v2)]) dX11_byLaw_94 rfl rfl rfl rfl rfl ?_
      refine e_r_aload_n (pc' := 98) (by decide) dX11_byLaw_97 rfl rfl rfl ?_
      refine e_r_getr (k := 27) (q := 449) (pc' := 101) cl_11 rfl (Nat.le_of_ble_eq_true rfl) rfl rfl fl_RX11_64 rfl (Nat.le_of_ble_eq_true rfl) dX11_byLaw_98 rfl ?_
      refine e_r_iload_n (pc' := 102) dX11_byLaw_101 rfl rfl rfl ?_
      refine e_r_iconst (pc' := 103) dX11_byLaw_102 rfl (by decide) ?_
      refine e_r_isub (pc' := 104) dX11_byLaw_103 rfl ?_
      refine e_r_aload_n (pc' := 105) (by decide) dX11_byLaw_104 rfl rfl rfl ?_
      refine e_r_getr (k := 23) (q := 113) (pc' := 108) cl_11 rfl (Nat.le_of_ble_eq_true rfl) rfl rfl fl_RX11_52 rfl (Nat.le_of_ble_eq_true rfl) dX11_byLaw_105 rfl ?_
      refine e_r_iload_n (pc' := 109) dX11_byLaw_108 rfl rfl rfl ?_
      obtain ⟨hb12, h⟩ := h
      refine e_r_aldr (q := (114 + v2.toNat)) (pc' := 110) rfl (Nat.le_of_ble_eq_true rfl) hb12.1 hb12.2 rfl (sh_113 hb12.1 hb12.2).2.1 dX11_byLaw_109 rfl ?_
      refine e_r_iconst (pc' := 111) dX11_byLaw_110 rfl (by decide) ?_
      refine e_r_iald (j9 := 0) (pc' := 112) (sh_113 hb12.1 hb12.2).1 (sh_113 hb12.1 hb12.2).2.1 (by decide) (by decide) rfl dX11_byLaw_111 rfl ?_
      refine e_r_aload_n (pc' := 113) (by decide) dX11_byLaw_112 rfl rfl rfl ?_
      refine e_r_getr (k := 27) (q := 449) (pc' := 116) cl_11 rfl (Nat.le_of_ble_eq_true rfl) rfl rfl fl_RX11_64 rfl (Nat.le_of_ble_eq_true rfl) dX11_byLaw_113 rfl ?_
      refine e_r_iload_n (pc' := 117) dX11_byLaw_116 rfl rfl rfl ?_
      refine e_r_iconst (pc' := 118) dX11_byLaw_117 rfl (by decide) ?_
      refine e_r_isub (pc' := 119) dX11_byLaw_118 rfl ?_
      obtain ⟨hb13, h⟩ := h
      refine e_r_iald (j9 := (e_w ((e_w (v1 + (-1))) - 1)).toNat) (pc' := 120) rfl (Nat.le_of_ble_eq_true rfl) hb13.1 hb13.2 rfl dX11_byLaw_119 rfl ?_
      refine e_r_aload_n (pc' := 121) (by decide) dX11_byLaw_120 rfl rfl rfl ?_
      refine e_r_getr (k := 27) (q := 449) (pc' := 124) cl_11 rfl (Nat.le_of_ble_eq_true rfl) rfl rfl fl_RX11_64 rfl (Nat.le_of_ble_eq_true rfl) dX11_byLaw_121 rfl ?_
      refine e_r_iload_n (pc' := 125) dX11_byLaw_124 rfl rfl rfl ?_
      obtain ⟨hb14, h⟩ := h
      refine e_r_iald (j9 := (e_w (v1 + (-1))).toNat) (pc' := 126) rfl (Nat.le_of_ble_eq_true rfl) hb14.1 hb14.2 rfl dX11_byLaw_125 rfl ?_
      obtain ⟨r16, N15, he17, h⟩ := h
      refine e_r_callS (av := [.inl (M (114 + v2.toNat) 0), .inl (M 449 (e_w ((e_w (v1 + (-1))) - 1)).toNat), .inl (M 449 (e_w (v1 + (-1))).toNat)]) (st := [.inl (e_w ((e_w (v1 + (-1))) - 1)), .inr (.inr 449)]) mqYX11_by ml_RX11_243 (by simp [e_cat]) rfl rfl rfl dX11_byLaw_126 (pc' := 129) rfl he17 ⟨Nat.le_refl _, Nat.le_refl _⟩ hmo ?_
      obtain ⟨hb18, h⟩ := h
      refine e_r_iast (j9 := (e_w ((e_w (v1 + (-1))) - 1)).toNat) (pc' := 130) rfl (Nat.le_of_ble_eq_true rfl) hb18.1 hb18.2 rfl dX11_byLaw_129 rfl ?_
      refine e_r_iinc (pc' := 133) (loc' := [some (.inr (.inr 64)), some (.inl (e_w (v1 + (-1)))), some (.inl (e_w (v2 + 1)))]) dX11_byLaw_130 rfl rfl rfl rfl rfl ?_
      refine e_r_goto (pc' := 27) dX11_byLaw_133 rfl ?_
      exact h
    · have h := hf11 c
      refine e_r_aload_n (pc' := 48) (by decide) dX11_byLaw_47 rfl rfl rfl ?_
      refine e_r_getr (k := 27) (q := 449) (pc' := 51) cl_11 rfl (Nat.le_of_ble_eq_true rfl) rfl rfl fl_RX11_64 rfl (Nat.le_of_ble_eq_true rfl) dX11_byLaw_48 rfl ?_
      refine e_r_iload_n (pc' := 52) dX11_byLaw_51 rfl rfl rfl ?_
      refine e_r_aload_n (pc' := 53) (by decide) dX11_byLaw_52 rfl rfl rfl ?_
      refine e_r_getr (k := 23) (q := 113) (pc' := 56) cl_11 rfl (Nat.le_of_ble_eq_true rfl) rfl rfl fl_RX11_52 rfl (Nat.le_of_ble_eq_true rfl) dX11_byLaw_53 rfl ?_
      refine e_r_iload_n (pc' := 57) dX11_byLaw_56 rfl rfl rfl ?_
      obtain ⟨hb19, h⟩ := h
      refine e_r_aldr (q := (114 + v2.toNat)) (pc' := 58) rfl (Nat.le_of_ble_eq_true rfl) hb19.1 hb19.2 rfl (sh_113 hb19.1 hb19.2).2.1 dX11_byLaw_57 rfl ?_
      refine e_r_iconst (pc' := 59) dX11_byLaw_58 rfl (by decide) ?_
      refine e_r_iald (j9 := 0) (pc' := 60) (sh_113 hb19.1 hb19.2).1 (sh_113 hb19.1 hb19.2).2.1 (by decide) (by decide) rfl dX11_byLaw_59 rfl ?_
      obtain ⟨ht20, hf21⟩ := h
      refine e_r_if_ne (tgt := 74) (pc' := 63) dX11_byLaw_60 rfl rfl (fun c => ?_) (fun c => ?_)
      · have h := ht20 c
        refine e_r_aload_n (pc' := 75) (by decide) dX11_byLaw_74 rfl rfl rfl ?_
        refine e_r_getr (k := 28) (q := 450) (pc' := 78) cl_11 rfl (Nat.le_of_ble_eq_true rfl) rfl rfl fl_RX11_67 rfl (Nat.le_of_ble_eq_true rfl) dX11_byLaw_75 rfl ?_
        refine e_r_aload_n (pc' := 79) (by decide) dX11_byLaw_78 rfl rfl rfl ?_
        refine e_r_getr (k := 23) (q := 113) (pc' := 82) cl_11 rfl (Nat.le_of_ble_eq_true rfl) rfl rfl fl_RX11_52 rfl (Nat.le_of_ble_eq_true rfl) dX11_byLaw_79 rfl ?_
        refine e_r_iload_n (pc' := 83) dX11_byLaw_82 rfl rfl rfl ?_
        obtain ⟨hb22, h⟩ := h
        refine e_r_aldr (q := (114 + v2.toNat)) (pc' := 84) rfl (Nat.le_of_ble_eq_true rfl) hb22.1 hb22.2 rfl (sh_113 hb22.1 hb22.2).2.1 dX11_byLaw_83 rfl ?_
        refine e_r_iconst (pc' := 85) dX11_byLaw_84 rfl (by decide) ?_
        refine e_r_iald (j9 := 1) (pc' := 86) (sh_113 hb22.1 hb22.2).1 (sh_113 hb22.1 hb22.2).2.1 (by decide) (by decide) rfl dX11_byLaw_85 rfl ?_
        obtain ⟨hb23, h⟩ := h
        refine e_r_iald (j9 := (M (114 + v2.toNat) 1).toNat) (pc' := 87) rfl (Nat.le_of_ble_eq_true rfl) hb23.1 hb23.2 rfl dX11_byLaw_86 rfl ?_
        exact h
      · have h := hf21 c
        refine e_r_aload_n (pc' := 64) (by decide) dX11_byLaw_63 rfl rfl rfl ?_
        refine e_r_getr (k := 23) (q := 113) (pc' := 67) cl_11 rfl (Nat.le_of_ble_eq_true rfl) rfl rfl fl_RX11_52 rfl (Nat.le_of_ble_eq_true rfl) dX11_byLaw_64 rfl ?_
        refine e_r_iload_n (pc' := 68) dX11_byLaw_67 rfl rfl rfl ?_
        obtain ⟨hb24, h⟩ := h
        refine e_r_aldr (q := (114 + v2.toNat)) (pc' := 69) rfl (Nat.le_of_ble_eq_true rfl) hb24.1 hb24.2 rfl (sh_113 hb24.1 hb24.2).2.1 dX11_byLaw_68 rfl ?_
        refine e_r_iconst (pc' := 70) dX11_byLaw_69 rfl (by decide) ?_
        refine e_r_iald (j9 := 1) (pc' := 71) (sh_113 hb24.1 hb24.2).1 (sh_113 hb24.1 hb24.2).2.1 (by decide) (by decide) rfl dX11_byLaw_70 rfl ?_
        refine e_r_goto (pc' := 87) dX11_byLaw_71 rfl ?_
        exact h
theorem wp_X11_byLaw_87 {X : e_X} {d gn : Nat} {o : e_O} (M : e_M) (v1 v2 w0 w1 : Int) (h : ((0 ≤ w1 ∧ w1 < 160) ∧ e_G X (d + 1) YX11_byLaw 27 [some (.inr (.inr 64)), some (.inl (e_w (v1 + 1))), some (.inl (e_w (v2 + 1)))] [] (557, gn, e_RF, (e_up M 449 w1.toNat w0)) o)) : e_G X (d + 1) YX11_byLaw 87 [some (.inr (.inr 64)), some (.inl v1), some (.inl v2)] [.inl w0, .inl w1, .inr (.inr 449)] (557, gn, e_RF, M) o := by
  obtain ⟨hb1, h⟩ := h
  refine e_r_iast (j9 := w1.toNat) (pc' := 88) rfl (Nat.le_of_ble_eq_true rfl) hb1.1 hb1.2 rfl dX11_byLaw_87 rfl ?_
  refine e_r_iinc (pc' := 91) (loc' := [some (.inr (.inr 64)), some (.inl (e_w (v1 + 1))), some (.inl v2)]) dX11_byLaw_88 rfl rfl rfl rfl rfl ?_
  refine e_r_goto (pc' := 130) dX11_byLaw_91 rfl ?_
  refine e_r_iinc (pc' := 133) (loc' := [some (.inr (.inr 64)), some (.inl (e_w (v1 + 1))), some (.inl (e_w (v2 + 1)))]) dX11_byLaw_130 rfl rfl rfl rfl rfl ?_
  refine e_r_goto (pc' := 27) dX11_byLaw_133 rfl ?_
  exact h
theorem wp_X11_stepHere_0 {X : e_X} {d gn : Nat} {o : e_O} (M : e_M) (hmo : e_mn (557, gn, e_RF, M) o.2) (h : (∃ (r2 : Int) (N1 : e_M), e_E X d YX11_isWord [.inr (.inr 64), .inl 2, .inl 21, .inl 25, .inl 0, .inl 0, .inl 0] (557, gn, e_RF, M) (.inl (some (.inl r2)), (557, gn, e_RF, N1)) ∧ ((r2 = 0 → (∃ (r7 : Int) (N6 : e_M), e_E X d YX11_isWord [.inr (.inr 64), .inl 19, .inl 5, .inl 12, .inl 12, .inl 0, .inl 0] (557, gn, e_RF, N1) (.inl (some (.inl r7)), (557, gn, e_RF, N6)) ∧ ((r7 = 0 → (∃ (r12 : Int) (N11 : e_M), e_E X d YX11_isWord [.inr (.inr 64), .inl 12, .inl 1, .inl 20, .inl 5, .inl 18, .inl 0] (557, gn, e_RF, N6) (.inl (some (.inl r12)), (557, gn, e_RF, N11)) ∧ ((r12 = 0 → (∃ (r17 : Int) (N16 : e_M), e_E X d YX11_isWord [.inr (.inr 64), .inl 23, .inl 5, .inl 5, .inl 11, .inl 0, .inl 0] (557, gn, e_RF, N11) (.inl (some (.inl r17)), (557, gn, e_RF, N16)) ∧ ((r17 = 0 → (∃ (r22 : Int) (N21 : e_M), e_E X d YX11_isWord [.inr (.inr 64), .inl 1, .inl 7, .inl 1, .inl 9, .inl 14, .inl 0] (557, gn, e_RF, N16) (.inl (some (.inl r22)), (557, gn, e_RF, N21)) ∧ ((r22 = 0 → (o = (.inl (some (.inl (-1))), (557, gn, e_RF, N21)))) ∧ (¬ (r22 = 0) → (o = (.inl (some (.inl 4)), (557, gn, e_RF, N21))))))) ∧ (¬ (r17 = 0) → (o = (.inl (some (.inl 3)), (557, gn, e_RF, N16))))))) ∧ (¬ (r12 = 0) → (o = (.inl (some (.inl 2)), (557, gn, e_RF, N11))))))) ∧ (¬ (r7 = 0) → (o = (.inl (some (.inl 1)), (557, gn, e_RF, N6))))))) ∧ (¬ (r2 = 0) → (o = (.inl (some (.inl 0)), (557, gn, e_RF, N1))))))) : e_G X (d + 1) YX11_stepHere 0 [some (.inr (.inr 64))] [] (557, gn, e_RF, M) o := by
  refine e_r_aload_n (pc' := 1) (by decide) dX11_stepHere_0 rfl rfl rfl ?_
  refine e_r_iconst (pc' := 2) dX11_stepHere_1 rfl (by decide) ?_
  refine e_r_bipush (pc' := 4) dX11_stepHere_2 rfl (by decide) ?_
  refine e_r_bipush (pc' := 6) dX11_stepHere_4 rfl (by decide) ?_
  refine e_r_iconst (pc' := 7) dX11_stepHere_6 rfl (by decide) ?_
  refine e_r_iconst (pc' := 8) dX11_stepHere_7 rfl (by decide) ?_
  refine e_r_iconst (pc' := 9) dX11_stepHere_8 rfl (by decide) ?_
  obtain ⟨r2, N1, he3, h⟩ := h
  refine e_r_callV (a := 64) (av := [.inl 2, .inl 21, .inl 25, .inl 0, .inl 0, .inl 0]) (st := []) mqYX11_isWord ml_RX11_146 cl_11 rfl (Nat.le_of_ble_eq_true rfl) (by simp [e_cat]) rfl rfl rfl dX11_stepHere_9 (pc' := 12) rfl he3 ⟨Nat.le_refl _, Nat.le_refl _⟩ hmo ?_
  obtain ⟨ht4, hf5⟩ := h
  refine e_r_if_eq (tgt := 17) (pc' := 15) dX11_stepHere_12 rfl rfl (fun c => ?_) (fun c => ?_)
  · have h := ht4 c
    refine e_r_aload_n (pc' := 18) (by decide) dX11_stepHere_17 rfl rfl rfl ?_
    refine e_r_bipush (pc' := 20) dX11_stepHere_18 rfl (by decide) ?_
    refine e_r_iconst (pc' := 21) dX11_stepHere_20 rfl (by decide) ?_
    refine e_r_bipush (pc' := 23) dX11_stepHere_21 rfl (by decide) ?_
    refine e_r_bipush (pc' := 25) dX11_stepHere_23 rfl (by decide) ?_
    refine e_r_iconst (pc' := 26) dX11_stepHere_25 rfl (by decide) ?_
    refine e_r_iconst (pc' := 27) dX11_stepHere_26 rfl (by decide) ?_
    obtain ⟨r7, N6, he8, h⟩ := h
    refine e_r_callV (a := 64) (av := [.inl 19, .inl 5, .inl 12, .inl 12, .inl 0, .inl 0]) (st := []) mqYX11_isWord ml_RX11_146 cl_11 rfl (Nat.le_of_ble_eq_true rfl) (by simp [e_cat]) rfl rfl rfl dX11_stepHere_27 (pc' := 30) rfl he8 ⟨Nat.le_refl _, Nat.le_refl _⟩ hmo ?_
    obtain ⟨ht9, hf10⟩ := h
    refine e_r_if_eq (tgt := 35) (pc' := 33) dX11_stepHere_30 rfl rfl (fun c => ?_) (fun c => ?_)
    · have h := ht9 c
      refine e_r_aload_n (pc' := 36) (by decide) dX11_stepHere_35 rfl rfl rfl ?_
      refine e_r_bipush (pc' := 38) dX11_stepHere_36 rfl (by decide) ?_
      refine e_r_iconst (pc' := 39) dX11_stepHere_38 rfl (by decide) ?_
      refine e_r_bipush (pc' := 41) dX11_stepHere_39 rfl (by decide) ?_
      refine e_r_iconst (pc' := 42) dX11_stepHere_41 rfl (by decide) ?_
      refine e_r_bipush (pc' := 44) dX11_stepHere_42 rfl (by decide) ?_
      refine e_r_iconst (pc' := 45) dX11_stepHere_44 rfl (by decide) ?_
      obtain ⟨r12, N11, he13, h⟩ := h
      refine e_r_callV (a := 64) (av := [.inl 12, .inl 1, .inl 20, .inl 5, .inl 18, .inl 0]) (st := []) mqYX11_isWord ml_RX11_146 cl_11 rfl (Nat.le_of_ble_eq_true rfl) (by simp [e_cat]) rfl rfl rfl dX11_stepHere_45 (pc' := 48) rfl he13 ⟨Nat.le_refl _, Nat.le_refl _⟩ hmo ?_
      obtain ⟨ht14, hf15⟩ := h
      refine e_r_if_eq (tgt := 53) (pc' := 51) dX11_stepHere_48 rfl rfl (fun c => ?_) (fun c => ?_)
      · have h := ht14 c
        refine e_r_aload_n (pc' := 54) (by decide) dX11_stepHere_53 rfl rfl rfl ?_
        refine e_r_bipush (pc' := 56) dX11_stepHere_54 rfl (by decide) ?_
        refine e_r_iconst (pc' := 57) dX11_stepHere_56 rfl (by decide) ?_
        refine e_r_iconst (pc' := 58) dX11_stepHere_57 rfl (by decide) ?_
        refine e_r_bipush (pc' := 60) dX11_stepHere_58 rfl (by decide) ?_
        refine e_r_iconst (pc' := 61) dX11_stepHere_60 rfl (by decide) ?_
        refine e_r_iconst (pc' := 62) dX11_stepHere_61 rfl (by decide) ?_
        obtain ⟨r17, N16, he18, h⟩ := h
        refine e_r_callV (a := 64) (av := [.inl 23, .inl 5, .inl 5, .inl 11, .inl 0, .inl 0]) (st := []) mqYX11_isWord ml_RX11_146 cl_11 rfl (Nat.le_of_ble_eq_true rfl) (by simp [e_cat]) rfl rfl rfl dX11_stepHere_62 (pc' := 65) rfl he18 ⟨Nat.le_refl _, Nat.le_refl _⟩ hmo ?_
        obtain ⟨ht19, hf20⟩ := h
        refine e_r_if_eq (tgt := 70) (pc' := 68) dX11_stepHere_65 rfl rfl (fun c => ?_) (fun c => ?_)
        · have h := ht19 c
          refine e_r_aload_n (pc' := 71) (by decide) dX11_stepHere_70 rfl rfl rfl ?_
          refine e_r_iconst (pc' := 72) dX11_stepHere_71 rfl (by decide) ?_
          refine e_r_bipush (pc' := 74) dX11_stepHere_72 rfl (by decide) ?_
          refine e_r_iconst (pc' := 75) dX11_stepHere_74 rfl (by decide) ?_
          refine e_r_bipush (pc' := 77) dX11_stepHere_75 rfl (by decide) ?_
          refine e_r_bipush (pc' := 79) dX11_stepHere_77 rfl (by decide) ?_
          refine e_r_iconst (pc' := 80) dX11_stepHere_79 rfl (by decide) ?_
          obtain ⟨r22, N21, he23, h⟩ := h
          refine e_r_callV (a := 64) (av := [.inl 1, .inl 7, .inl 1, .inl 9, .inl 14, .inl 0]) (st := []) mqYX11_isWord ml_RX11_146 cl_11 rfl (Nat.le_of_ble_eq_true rfl) (by simp [e_cat]) rfl rfl rfl dX11_stepHere_80 (pc' := 83) rfl he23 ⟨Nat.le_refl _, Nat.le_refl _⟩ hmo ?_
          obtain ⟨ht24, hf25⟩ := h
          refine e_r_if_eq (tgt := 90) (pc' := 86) dX11_stepHere_83 rfl rfl (fun c => ?_) (fun c => ?_)
          · have h := ht24 c
            refine e_r_iconst (pc' := 91) dX11_stepHere_90 rfl (by decide) ?_
            exact e_r_iret (ty := .int) rfl (e_nI _) dX11_stepHere_91 h
          · have h := hf25 c
            refine e_r_iconst (pc' := 87) dX11_stepHere_86 rfl (by decide) ?_
            refine e_r_goto (pc' := 91) dX11_stepHere_87 rfl ?_
            exact e_r_iret (ty := .int) rfl (e_nI _) dX11_stepHere_91 h
        · have h := hf20 c
          refine e_r_iconst (pc' := 69) dX11_stepHere_68 rfl (by decide) ?_
          exact e_r_iret (ty := .int) rfl (e_nI _) dX11_stepHere_69 h
      · have h := hf15 c
        refine e_r_iconst (pc' := 52) dX11_stepHere_51 rfl (by decide) ?_
        exact e_r_iret (ty := .int) rfl (e_nI _) dX11_stepHere_52 h
    · have h := hf10 c
      refine e_r_iconst (pc' := 34) dX11_stepHere_33 rfl (by decide) ?_
      exact e_r_iret (ty := .int) rfl (e_nI _) dX11_stepHere_34 h
  · have h := hf5 c
    refine e_r_iconst (pc' := 16) dX11_stepHere_15 rfl (by decide) ?_
    exact e_r_iret (ty := .int) rfl (e_nI _) dX11_stepHere_16 h
