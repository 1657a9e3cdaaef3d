set_option maxHeartbeats 4000000 in
set_option maxRecDepth 20000 in
theorem k_X7_init_2 {X : e_X} {d gn : Nat} {R : e_R} {M : e_M} (hR : ∀ a j, R a j ≤ 2) : e_E X (d + 1) YX7_init [.inr (.inr 2)] (2, gn, R, M) (.inl none, (3, gn, (e_uR (e_zR R 3) 2 0 3), (e_up (e_up (e_up (e_up (e_up (e_up (e_z M 3) 2 1 0) 2 2 0) 2 3 0) 2 4 0) 2 5 (-1)) 2 6 0))) ∧ ∀ a j, (e_uR (e_zR R 3) 2 0 3) a j ≤ 3 := by
  have h1 := h_z (show 2 + 1 = 3 from rfl) hR
  have h2 := h_u (a0 := 2) (k := 0) h1 (show 3 ≤ 3 from (Nat.le_of_ble_eq_true rfl))
  refine ⟨?_, h2⟩
  show e_G X (d + 1) YX7_init 0 [some (.inr (.inr 2))] [] (2, gn, R, M) _
  refine e_r_aload_n (pc' := 1) (by decide) dX7_init_0 rfl rfl rfl ?_
  refine e_r_obj (pc' := 4) ob_RX7_3 ob_i ob_c (by decide) rfl dX7_init_1 rfl ?_
  refine e_r_aload_n (pc' := 5) (by decide) dX7_init_4 rfl rfl rfl ?_
  refine e_r_sipush (pc' := 8) dX7_init_5 rfl (by decide) ?_
  refine e_q_newB (n := 600) (c1 := 3) (pc' := 10) rfl (by decide) hR (by decide) (by decide) ac_byte dX7_init_8 rfl ⟨(Nat.le_of_ble_eq_true rfl), Nat.le_refl _⟩ rfl ?_
  refine e_r_putr (fty := (.array .byte)) (k := 0) (q := 3) (pc' := 13) cl_7 rfl (Nat.le_of_ble_eq_true rfl) rfl rfl fl_RX7_9 rfl rfl rfl (by decide +kernel) (fun _ => rfl) (fun _ => rfl) (by decide) dX7_init_10 rfl ?_
  refine e_r_aload_n (pc' := 14) (by decide) dX7_init_13 rfl rfl rfl ?_
  refine e_r_iconst (pc' := 15) dX7_init_14 rfl (by decide) ?_
  refine e_r_puti (k := 1) (pc' := 18) cl_7 rfl (Nat.le_of_ble_eq_true rfl) rfl rfl fl_RX7_15 rfl (by decide +kernel) dX7_init_15 rfl ?_
  refine e_r_aload_n (pc' := 19) (by decide) dX7_init_18 rfl rfl rfl ?_
  refine e_r_iconst (pc' := 20) dX7_init_19 rfl (by decide) ?_
  refine e_r_puti (k := 2) (pc' := 23) cl_7 rfl (Nat.le_of_ble_eq_true rfl) rfl rfl fl_RX7_19 rfl (by decide +kernel) dX7_init_20 rfl ?_
  refine e_r_aload_n (pc' := 24) (by decide) dX7_init_23 rfl rfl rfl ?_
  refine e_r_iconst (pc' := 25) dX7_init_24 rfl (by decide) ?_
  refine e_r_puti (k := 3) (pc' := 28) cl_7 rfl (Nat.le_of_ble_eq_true rfl) rfl rfl fl_RX7_22 rfl (by decide +kernel) dX7_init_25 rfl ?_
  refine e_r_aload_n (pc' := 29) (by decide) dX7_init_28 rfl rfl rfl ?_
  refine e_r_iconst (pc' := 30) dX7_init_29 rfl (by decide) ?_
  refine e_r_puti (k := 4) (pc' := 33) cl_7 rfl (Nat.le_of_ble_eq_true rfl) rfl rfl fl_RX7_25 rfl (by decide +kernel) dX7_init_30 rfl ?_
  refine e_r_aload_n (pc' := 34) (by decide) dX7_init_33 rfl rfl rfl ?_
  refine e_r_iconst (pc' := 35) dX7_init_34 rfl (by decide) ?_
  refine e_r_puti (k := 5) (pc' := 38) cl_7 rfl (Nat.le_of_ble_eq_true rfl) rfl rfl fl_RX7_28 rfl (by decide +kernel) dX7_init_35 rfl ?_
  refine e_r_aload_n (pc' := 39) (by decide) dX7_init_38 rfl rfl rfl ?_
  refine e_r_iconst (pc' := 40) dX7_init_39 rfl (by decide) ?_
  refine e_r_puti (k := 6) (pc' := 43) cl_7 rfl (Nat.le_of_ble_eq_true rfl) rfl rfl fl_RX7_31 rfl (by decide +kernel) dX7_init_40 rfl ?_
  exact e_r_vret rfl dX7_init_43 rfl
set_option maxHeartbeats 4000000 in
set_option maxRecDepth 20000 in
theorem k_X8_init_4 {X : e_X} {d gn : Nat} {R : e_R} {M : e_M} (hR : ∀ a j, R a j ≤ 4) : e_E X (d + 1) YX8_init [.inr (.inr 4)] (4, gn, R, M) (.inl none, (11, gn, (e_uR (e_zR (e_uR (e_zR (e_uR (e_zR (e_uR (e_zR (e_uR (e_zR (e_uR (e_zR (e_uR (e_zR R 5) 4 3 5) 6) 4 4 6) 7) 4 5 7) 8) 4 6 8) 9) 4 7 9) 10) 4 8 10) 11) 4 9 11), (e_z (e_z (e_z (e_z (e_z (e_z (e_z (e_up (e_up (e_up M 4 0 0) 4 1 0) 4 2 0) 5) 6) 7) 8) 9) 10) 11))) ∧ ∀ a j, (e_uR (e_zR (e_uR (e_zR (e_uR (e_zR (e_uR (e_zR (e_uR (e_zR (e_uR (e_zR (e_uR (e_zR R 5) 4 3 5) 6) 4 4 6) 7) 4 5 7) 8) 4 6 8) 9) 4 7 9) 10) 4 8 10) 11) 4 9 11) a j ≤ 11 := by
  have h1 := h_z (show 4 + 1 = 5 from rfl) hR
  have h2 := h_u (a0 := 4) (k := 3) h1 (show 5 ≤ 5 from (Nat.le_of_ble_eq_true rfl))
  have h3 := h_z (show 5 + 1 = 6 from rfl) h2
  have h4 := h_u (a0 := 4) (k := 4) h3 (show 6 ≤ 6 from (Nat.le_of_ble_eq_true rfl))
  have h5 := h_z (show 6 + 1 = 7 from rfl) h4
  have h6 := h_u (a0 := 4) (k := 5) h5 (show 7 ≤ 7 from (Nat.le_of_ble_eq_true rfl))
  have h7 := h_z (show 7 + 1 = 8 from rfl) h6
  have h8 := h_u (a0 := 4) (k := 6) h7 (show 8 ≤ 8 from (Nat.le_of_ble_eq_true rfl))
  have h9 := h_z (show 8 + 1 = 9 from rfl) h8
  have h10 := h_u (a0 := 4) (k := 7) h9 (show 9 ≤ 9 from (Nat.le_of_ble_eq_true rfl))
  have h11 := h_z (show 9 + 1 = 10 from rfl) h10
  have h12 := h_u (a0 := 4) (k := 8) h11 (show 10 ≤ 10 from (Nat.le_of_ble_eq_true rfl))
  have h13 := h_z (show 10 + 1 = 11 from rfl) h12
  have h14 := h_u (a0 := 4) (k := 9) h13 (show 11 ≤ 11 from (Nat.le_of_ble_eq_true rfl))
  refine ⟨?_, h14⟩
  show e_G X (d + 1) YX8_init 0 [some (.inr (.inr 4))] [] (4, gn, R, M) _
  refine e_r_aload_n (pc' := 1) (by decide) dX8_init_0 rfl rfl rfl ?_
  refine e_r_obj (pc' := 4) ob_RX8_3 ob_i ob_c (by decide) rfl dX8_init_1 rfl ?_
  refine e_r_aload_n (pc' := 5) (by decide) dX8_init_4 rfl rfl rfl ?_
  refine e_r_iconst (pc' := 6) dX8_init_5 rfl (by decide) ?_
  refine e_r_puti (k := 0) (pc' := 9) cl_8 rfl (Nat.le_of_ble_eq_true rfl) rfl rfl fl_RX8_9 rfl (by decide +kernel) dX8_init_6 rfl ?_
  refine e_r_aload_n (pc' := 10) (by decide) dX8_init_9 rfl rfl rfl ?_
  refine e_r_iconst (pc' := 11) dX8_init_10 rfl (by decide) ?_
  refine e_r_puti (k := 1) (pc' := 14) cl_8 rfl (Nat.le_of_ble_eq_true rfl) rfl rfl fl_RX8_15 rfl (by decide +kernel) dX8_init_11 rfl ?_
  refine e_r_aload_n (pc' := 15) (by decide) dX8_init_14 rfl rfl rfl ?_
  refine e_r_iconst (pc' := 16) dX8_init_15 rfl (by decide) ?_
  refine e_r_puti (k := 2) (pc' := 19) cl_8 rfl (Nat.le_of_ble_eq_true rfl) rfl rfl fl_RX8_18 rfl (by decide +kernel) dX8_init_16 rfl ?_
  refine e_r_aload_n (pc' := 20) (by decide) dX8_init_19 rfl rfl rfl ?_
  refine e_r_bipush (pc' := 22) dX8_init_20 rfl (by decide) ?_
  refine e_q_newI (n := 6) (c1 := 5) (pc' := 24) rfl (by decide) hR (by decide) (by decide) ac_int dX8_init_22 rfl ⟨(Nat.le_of_ble_eq_true rfl), Nat.le_refl _⟩ rfl ?_
  refine e_r_putr (fty := (.array .int)) (k := 3) (q := 5) (pc' := 27) cl_8 rfl (Nat.le_of_ble_eq_true rfl) rfl rfl fl_RX8_21 rfl rfl rfl (by decide +kernel) (fun _ => rfl) (fun _ => rfl) (by decide) dX8_init_24 rfl ?_
  refine e_r_aload_n (pc' := 28) (by decide) dX8_init_27 rfl rfl rfl ?_
  refine e_r_bipush (pc' := 30) dX8_init_28 rfl (by decide) ?_
  refine e_q_newI (n := 6) (c1 := 6) (pc' := 32) rfl (by decide) h2 (by decide) (by decide) ac_int dX8_init_30 rfl ⟨(Nat.le_of_ble_eq_true rfl), Nat.le_refl _⟩ rfl ?_
  refine e_r_putr (fty := (.array .int)) (k := 4) (q := 6) (pc' := 35) cl_8 rfl (Nat.le_of_ble_eq_true rfl) rfl rfl fl_RX8_25 rfl rfl rfl (by decide +kernel) (fun _ => rfl) (fun _ => rfl) (by decide) dX8_init_32 rfl ?_
  refine e_r_aload_n (pc' := 36) (by decide) dX8_init_35 rfl rfl rfl ?_
  refine e_r_bipush (pc' := 38) dX8_init_36 rfl (by decide) ?_
  refine e_q_newI (n := 6) (c1 := 7) (pc' := 40) rfl (by decide) h4 (by decide) (by decide) ac_int dX8_init_38 rfl ⟨(Nat.le_of_ble_eq_true rfl), Nat.le_refl _⟩ rfl ?_
  refine e_r_putr (fty := (.array .int)) (k := 5) (q := 7) (pc' := 43) cl_8 rfl (Nat.le_of_ble_eq_true rfl) rfl rfl fl_RX8_28 rfl rfl rfl (by decide +kernel) (fun _ => rfl) (fun _ => rfl) (by decide) dX8_init_40 rfl ?_
  refine e_r_aload_n (pc' := 44) (by decide) dX8_init_43 rfl rfl rfl ?_
  refine e_r_bipush (pc' := 46) dX8_init_44 rfl (by decide) ?_
  refine e_q_newI (n := 6) (c1 := 8) (pc' := 48) rfl (by decide) h6 (by decide) (by decide) ac_int dX8_init_46 rfl ⟨(Nat.le_of_ble_eq_true rfl), Nat.le_refl _⟩ rfl ?_
  refine e_r_putr (fty := (.array .int)) (k := 6) (q := 8) (pc' := 51) cl_8 rfl (Nat.le_of_ble_eq_true rfl) rfl rfl fl_RX8_31 rfl rfl rfl (by decide +kernel) (fun _ => rfl) (fun _ => rfl) (by decide) dX8_init_48 rfl ?_
  refine e_r_aload_n (pc' := 52) (by decide) dX8_init_51 rfl rfl rfl ?_
  refine e_r_bipush (pc' := 54) dX8_init_52 rfl (by decide) ?_
  refine e_q_newI (n := 12) (c1 := 9) (pc' := 56) rfl (by decide) h8 (by decide) (by decide) ac_int dX8_init_54 rfl ⟨(Nat.le_of_ble_eq_true rfl), Nat.le_refl _⟩ rfl ?_
  refine e_r_putr (fty := (.array .int)) (k := 7) (q := 9) (pc' := 59) cl_8 rfl (Nat.le_of_ble_eq_true rfl) rfl rfl fl_RX8_34 rfl rfl rfl (by decide +kernel) (fun _ => rfl) (fun _ => rfl) (by decide) dX8_init_56 rfl ?_
  refine e_r_aload_n (pc' := 60) (by decide) dX8_init_59 rfl rfl rfl ?_
  refine e_r_bipush (pc' := 62) dX8_init_60 rfl (by decide) ?_
  refine e_q_newI (n := 12) (c1 := 10) (pc' := 64) rfl (by decide) h10 (by decide) (by decide) ac_int dX8_init_62 rfl ⟨(Nat.le_of_ble_eq_true rfl), Nat.le_refl _⟩ rfl ?_
  refine e_r_putr (fty := (.array .int)) (k := 8) (q := 10) (pc' := 67) cl_8 rfl (Nat.le_of_ble_eq_true rfl) rfl rfl fl_RX8_37 rfl rfl rfl (by decide +kernel) (fun _ => rfl) (fun _ => rfl) (by decide) dX8_init_64 rfl ?_
  refine e_r_aload_n (pc' := 68) (by decide) dX8_init_67 rfl rfl rfl ?_
  refine e_r_bipush (pc' := 70) dX8_init_68 rfl (by decide) ?_
  refine e_q_newI (n := 12) (c1 := 11) (pc' := 72) rfl (by decide) h12 (by decide) (by decide) ac_int dX8_init_70 rfl ⟨(Nat.le_of_ble_eq_true rfl), Nat.le_refl _⟩ rfl ?_
  refine e_r_putr (fty := (.array .int)) (k := 9) (q := 11) (pc' := 75) cl_8 rfl (Nat.le_of_ble_eq_true rfl) rfl rfl fl_RX8_40 rfl rfl rfl (by decide +kernel) (fun _ => rfl) (fun _ => rfl) (by decide) dX8_init_72 rfl ?_
  exact e_r_vret rfl dX8_init_75 rfl
set_option maxHeartbeats 4000000 in
set_option maxRecDepth 20000 in
theorem k_X8_init_12 {X : e_X} {d gn : Nat} {R : e_R} {M : e_M} (hR : ∀ a j, R a j ≤ 12) : e_E X (d + 1) YX8_init [.inr (.inr 12)] (12, gn, R, M) (.inl none, (19, gn, (e_uR (e_zR (e_uR (e_zR (e_uR (e_zR (e_uR (e_zR (e_uR (e_zR (e_uR (e_zR (e_uR (e_zR R 13) 12 3 13) 14) 12 4 14) 15) 12 5 15) 16) 12 6 16) 17) 12 7 17) 18) 12 8 18) 19) 12 9 19), (e_z (e_z (e_z (e_z (e_z (e_z (e_z (e_up (e_up (e_up M 12 0 0) 12 1 0) 12 2 0) 13) 14) 15) 16) 17) 18) 19))) ∧ ∀ a j, (e_uR (e_zR (e_uR (e_zR (e_uR (e_zR (e_uR (e_zR (e_uR (e_zR (e_uR (e_zR (e_uR (e_zR R 13) 12 3 13) 14) 12 4 14) 15) 12 5 15) 16) 12 6 16) 17) 12 7 17) 18) 12 8 18) 19) 12 9 19) a j ≤ 19 := by
  have h1 := h_z (show 12 + 1 = 13 from rfl) hR
  have h2 := h_u (a0 := 12) (k := 3) h1 (show 13 ≤ 13 from (Nat.le_of_ble_eq_true rfl))
  have h3 := h_z (show 13 + 1 = 14 from rfl) h2
  have h4 := h_u (a0 := 12) (k := 4) h3 (show 14 ≤ 14 from (Nat.le_of_ble_eq_true rfl))
  have h5 := h_z (show 14 + 1 = 15 from rfl) h4
  have h6 := h_u (a0 := 12) (k := 5) h5 (show 15 ≤ 15 from (Nat.le_of_ble_eq_true rfl))
  have h7 := h_z (show 15 + 1 = 16 from rfl) h6
  have h8 := h_u (a0 := 12) (k := 6) h7 (show 16 ≤ 16 from (Nat.le_of_ble_eq_true rfl))
  have h9 := h_z (show 16 + 1 = 17 from rfl) h8
  have h10 := h_u (a0 := 12) (k := 7) h9 (show 17 ≤ 17 from (Nat.le_of_ble_eq_true rfl))
  have h11 := h_z (show 17 + 1 = 18 from rfl) h10
  have h12 := h_u (a0 := 12) (k := 8) h11 (show 18 ≤ 18 from (Nat.le_of_ble_eq_true rfl))
  have h13 := h_z (show 18 + 1 = 19 from rfl) h12
  have h14 := h_u (a0 := 12) (k := 9) h13 (show 19 ≤ 19 from (Nat.le_of_ble_eq_true rfl))
  refine ⟨?_, h14⟩
  show e_G X (d + 1) YX8_init 0 [some (.inr (.inr 12))] [] (12, gn, R, M) _
  refine e_r_aload_n (pc' := 1) (by decide) dX8_init_0 rfl rfl rfl ?_
  refine e_r_obj (pc' := 4) ob_RX8_3 ob_i ob_c (by decide) rfl dX8_init_1 rfl ?_
  refine e_r_aload_n (pc' := 5) (by decide) dX8_init_4 rfl rfl rfl ?_
  refine e_r_iconst (pc' := 6) dX8_init_5 rfl (by decide) ?_
  refine e_r_puti (k := 0) (pc' := 9) cl_8 rfl (Nat.le_of_ble_eq_true rfl) rfl rfl fl_RX8_9 rfl (by decide +kernel) dX8_init_6 rfl ?_
  refine e_r_aload_n (pc' := 10) (by decide) dX8_init_9 rfl rfl rfl ?_
  refine e_r_iconst (pc' := 11) dX8_init_10 rfl (by decide) ?_
  refine e_r_puti (k := 1) (pc' := 14) cl_8 rfl (Nat.le_of_ble_eq_true rfl) rfl rfl fl_RX8_15 rfl (by decide +kernel) dX8_init_11 rfl ?_
  refine e_r_aload_n (pc' := 15) (by decide) dX8_init_14 rfl rfl rfl ?_
  refine e_r_iconst (pc' := 16) dX8_init_15 rfl (by decide) ?_
  refine e_r_puti (k := 2) (pc' := 19) cl_8 rfl (Nat.le_of_ble_eq_true rfl) rfl rfl fl_RX8_18 rfl (by decide +kernel) dX8_init_16 rfl ?_
  refine e_r_aload_n (pc' := 20) (by decide) dX8_init_19 rfl rfl rfl ?_
  refine e_r_bipush (pc' := 22) dX8_init_20 rfl (by decide) ?_
  refine e_q_newI (n := 6) (c1 := 13) (pc' := 24) rfl (by decide) hR (by decide) (by decide) ac_int dX8_init_22 rfl ⟨(Nat.le_of_ble_eq_true rfl), Nat.le_refl _⟩ rfl ?_
  refine e_r_putr (fty := (.array .int)) (k := 3) (q := 13) (pc' := 27) cl_8 rfl (Nat.le_of_ble_eq_true rfl) rfl rfl fl_RX8_21 rfl rfl rfl (by decide +kernel) (fun _ => rfl) (fun _ => rfl) (by decide) dX8_init_24 rfl ?_
  refine e_r_aload_n (pc' := 28) (by decide) dX8_init_27 rfl rfl rfl ?_
  refine e_r_bipush (pc' := 30) dX8_init_28 rfl (by decide) ?_
  refine e_q_newI (n := 6) (c1 := 14) (pc' := 32) rfl (by decide) h2 (by decide) (by decide) ac_int dX8_init_30 rfl ⟨(Nat.le_of_ble_eq_true rfl), Nat.le_refl _⟩ rfl ?_
  refine e_r_putr (fty := (.array .int)) (k := 4) (q := 14) (pc' := 35) cl_8 rfl (Nat.le_of_ble_eq_true rfl) rfl rfl fl_RX8_25 rfl rfl rfl (by decide +kernel) (fun _ => rfl) (fun _ => rfl) (by decide) dX8_init_32 rfl ?_
  refine e_r_aload_n (pc' := 36) (by decide) dX8_init_35 rfl rfl rfl ?_
  refine e_r_bipush (pc' := 38) dX8_init_36 rfl (by decide) ?_
  refine e_q_newI (n := 6) (c1 := 15) (pc' := 40) rfl (by decide) h4 (by decide) (by decide) ac_int dX8_init_38 rfl ⟨(Nat.le_of_ble_eq_true rfl), Nat.le_refl _⟩ rfl ?_
  refine e_r_putr (fty := (.array .int)) (k := 5) (q := 15) (pc' := 43) cl_8 rfl (Nat.le_of_ble_eq_true rfl) rfl rfl fl_RX8_28 rfl rfl rfl (by decide +kernel) (fun _ => rfl) (fun _ => rfl) (by decide) dX8_init_40 rfl ?_
  refine e_r_aload_n (pc' := 44) (by decide) dX8_init_43 rfl rfl rfl ?_
  refine e_r_bipush (pc' := 46) dX8_init_44 rfl (by decide) ?_
  refine e_q_newI (n := 6) (c1 := 16) (pc' := 48) rfl (by decide) h6 (by decide) (by decide) ac_int dX8_init_46 rfl ⟨(Nat.le_of_ble_eq_true rfl), Nat.le_refl _⟩ rfl ?_
  refine e_r_putr (fty := (.array .int)) (k := 6) (q := 16) (pc' := 51) cl_8 rfl (Nat.le_of_ble_eq_true rfl) rfl rfl fl_RX8_31 rfl rfl rfl (by decide +kernel) (fun _ => rfl) (fun _ => rfl) (by decide) dX8_init_48 rfl ?_
  refine e_r_aload_n (pc' := 52) (by decide) dX8_init_51 rfl rfl rfl ?_
  refine e_r_bipush (pc' := 54) dX8_init_52 rfl (by decide) ?_
  refine e_q_newI (n := 12) (c1 := 17) (pc' := 56) rfl (by decide) h8 (by decide) (by decide) ac_int dX8_init_54 rfl ⟨(Nat.le_of_ble_eq_true rfl), Nat.le_refl _⟩ rfl ?_
  refine e_r_putr (fty := (.array .int)) (k := 7) (q := 17) (pc' := 59) cl_8 rfl (Nat.le_of_ble_eq_true rfl) rfl rfl fl_RX8_34 rfl rfl rfl (by decide +kernel) (fun _ => rfl) (fun _ => rfl) (by decide) dX8_init_56 rfl ?_
  refine e_r_aload_n (pc' := 60) (by decide) dX8_init_59 rfl rfl rfl ?_
  refine e_r_bipush (pc' := 62) dX8_init_60 rfl (by decide) ?_
  refine e_q_newI (n := 12) (c1 := 18) (pc' := 64) rfl (by decide) h10 (by decide) (by decide) ac_int dX8_init_62 rfl ⟨(Nat.le_of_ble_eq_true rfl), Nat.le_refl _⟩ rfl ?_
  refine e_r_putr (fty := (.array .int)) (k := 8) (q := 18) (pc' := 67) cl_8 rfl (Nat.le_of_ble_eq_true rfl) rfl rfl fl_RX8_37 rfl rfl rfl (by decide +kernel) (fun _ => rfl) (fun _ => rfl) (by decide) dX8_init_64 rfl ?_
  refine e_r_aload_n (pc' := 68) (by decide) dX8_init_67 rfl rfl rfl ?_
  refine e_r_bipush (pc' := 70) dX8_init_68 rfl (by decide) ?_
  refine e_q_newI (n := 12) (c1 := 19) (pc' := 72) rfl (by decide) h12 (by decide) (by decide) ac_int dX8_init_70 rfl ⟨(Nat.le_of_ble_eq_true rfl), Nat.le_refl _⟩ rfl ?_
  refine e_r_putr (fty := (.array .int)) (k := 9) (q := 19) (pc' := 75) cl_8 rfl (Nat.le_of_ble_eq_true rfl) rfl rfl fl_RX8_40 rfl rfl rfl (by decide +kernel) (fun _ => rfl) (fun _ => rfl) (by decide) dX8_init_72 rfl ?_
  exact e_r_vret rfl dX8_init_75 rfl
set_option maxHeartbeats 4000000 in
set_option maxRecDepth 20000 in
theorem k_X2_init_20 {X : e_X} {d gn : Nat} {R : e_R} {M : e_M} (hR : ∀ a j, R a j ≤ 20) : e_E X (d + 1) YX2_init [.inr (.inr 20)] (20, gn, R, M) (.inl none, (23, gn, (e_uR (e_zR (e_uR (e_zR (e_uR (e_zR R 21) 20 0 21) 22) 20 2 22) 23) 20 3 23), (e_z (e_z (e_up (e_z M 21) 20 1 0) 22) 23))) ∧ ∀ a j, (e_uR (e_zR (e_uR (e_zR (e_uR (e_zR R 21) 20 0 21) 22) 20 2 22) 23) 20 3 23) a j ≤ 23 := by
  have h1 := h_z (show 20 + 1 = 21 from rfl) hR
  have h2 := h_u (a0 := 20) (k := 0) h1 (show 21 ≤ 21 from (Nat.le_of_ble_eq_true rfl))
  have h3 := h_z (show 21 + 1 = 22 from rfl) h2
  have h4 := h_u (a0 := 20) (k := 2) h3 (show 22 ≤ 22 from (Nat.le_of_ble_eq_true rfl))
  have h5 := h_z (show 22 + 1 = 23 from rfl) h4
  have h6 := h_u (a0 := 20) (k := 3) h5 (show 23 ≤ 23 from (Nat.le_of_ble_eq_true rfl))
  refine ⟨?_, h6⟩
  show e_G X (d + 1) YX2_init 0 [some (.inr (.inr 20))] [] (20, gn, R, M) _
  refine e_r_aload_n (pc' := 1) (by decide) dX2_init_0 rfl rfl rfl ?_
  refine e_r_obj (pc' := 4) ob_RX2_3 ob_i ob_c (by decide) rfl dX2_init_1 rfl ?_
  refine e_r_aload_n (pc' := 5) (by decide) dX2_init_4 rfl rfl rfl ?_
  refine e_r_sipush (pc' := 8) dX2_init_5 rfl (by decide) ?_
  refine e_q_newI (n := 150) (c1 := 21) (pc' := 10) rfl (by decide) hR (by decide) (by decide) ac_int dX2_init_8 rfl ⟨(Nat.le_of_ble_eq_true rfl), Nat.le_refl _⟩ rfl ?_
  refine e_r_putr (fty := (.array .int)) (k := 0) (q := 21) (pc' := 13) cl_2 rfl (Nat.le_of_ble_eq_true rfl) rfl rfl fl_RX2_9 rfl rfl rfl (by decide +kernel) (fun _ => rfl) (fun _ => rfl) (by decide) dX2_init_10 rfl ?_
  refine e_r_aload_n (pc' := 14) (by decide) dX2_init_13 rfl rfl rfl ?_
  refine e_r_iconst (pc' := 15) dX2_init_14 rfl (by decide) ?_
  refine e_r_puti (k := 1) (pc' := 18) cl_2 rfl (Nat.le_of_ble_eq_true rfl) rfl rfl fl_RX2_15 rfl (by decide +kernel) dX2_init_15 rfl ?_
  refine e_r_aload_n (pc' := 19) (by decide) dX2_init_18 rfl rfl rfl ?_
  refine e_r_sipush (pc' := 22) dX2_init_19 rfl (by decide) ?_
  refine e_q_newI (n := 150) (c1 := 22) (pc' := 24) rfl (by decide) h2 (by decide) (by decide) ac_int dX2_init_22 rfl ⟨(Nat.le_of_ble_eq_true rfl), Nat.le_refl _⟩ rfl ?_
  refine e_r_putr (fty := (.array .int)) (k := 2) (q := 22) (pc' := 27) cl_2 rfl (Nat.le_of_ble_eq_true rfl) rfl rfl fl_RX2_19 rfl rfl rfl (by decide +kernel) (fun _ => rfl) (fun _ => rfl) (by decide) dX2_init_24 rfl ?_
  refine e_r_aload_n (pc' := 28) (by decide) dX2_init_27 rfl rfl rfl ?_
  refine e_r_bipush (pc' := 30) dX2_init_28 rfl (by decide) ?_
  refine e_q_newI (n := 8) (c1 := 23) (pc' := 32) rfl (by decide) h4 (by decide) (by decide) ac_int dX2_init_30 rfl ⟨(Nat.le_of_ble_eq_true rfl), Nat.le_refl _⟩ rfl ?_
  refine e_r_putr (fty := (.array .int)) (k := 3) (q := 23) (pc' := 35) cl_2 rfl (Nat.le_of_ble_eq_true rfl) rfl rfl fl_RX2_22 rfl rfl rfl (by decide +kernel) (fun _ => rfl) (fun _ => rfl) (by decide) dX2_init_32 rfl ?_
  exact e_r_vret rfl dX2_init_35 rfl
set_option maxHeartbeats 4000000 in
set_option maxRecDepth 20000 in
theorem k_X2_init_24 {X : e_X} {d gn : Nat} {R : e_R} {M : e_M} (hR : ∀ a j, R a j ≤ 24) : e_E X (d + 1) YX2_init [.inr (.inr 24)] (24, gn, R, M) (.inl none, (27, gn, (e_uR (e_zR (e_uR (e_zR (e_uR (e_zR R 25) 24 0 25) 26) 24 2 26) 27) 24 3 27), (e_z (e_z (e_up (e_z M 25) 24 1 0) 26) 27))) ∧ ∀ a j, (e_uR (e_zR (e_uR (e_zR (e_uR (e_zR R 25) 24 0 25) 26) 24 2 26) 27) 24 3 27) a j ≤ 27 := by
  have h1 := h_z (show 24 + 1 = 25 from rfl) hR
  have h2 := h_u (a0 := 24) (k := 0) h1 (show 25 ≤ 25 from (Nat.le_of_ble_eq_true rfl))
  have h3 := h_z (show 25 + 1 = 26 from rfl) h2
  have h4 := h_u (a0 := 24) (k := 2) h3 (show 26 ≤ 26 from (Nat.le_of_ble_eq_true rfl))
  have h5 := h_z (show 26 + 1 = 27 from rfl) h4
  have h6 := h_u (a0 := 24) (k := 3) h5 (show 27 ≤ 27 from (Nat.le_of_ble_eq_true rfl))
  refine ⟨?_, h6⟩
  show e_G X (d + 1) YX2_init 0 [some (.inr (.inr 24))] [] (24, gn, R, M) _
  refine e_r_aload_n (pc' := 1) (by decide) dX2_init_0 rfl rfl rfl ?_
  refine e_r_obj (pc' := 4) ob_RX2_3 ob_i ob_c (by decide) rfl dX2_init_1 rfl ?_
  refine e_r_aload_n (pc' := 5) (by decide) dX2_init_4 rfl rfl rfl ?_
  refine e_r_sipush (pc' := 8) dX2_init_5 rfl (by decide) ?_
  refine e_q_newI (n := 150) (c1 := 25) (pc' := 10) rfl (by decide) hR (by decide) (by decide) ac_int dX2_init_8 rfl ⟨(Nat.le_of_ble_eq_true rfl), Nat.le_refl _⟩ rfl ?_
  refine e_r_putr (fty := (.array .int)) (k := 0) (q := 25) (pc' := 13) cl_2 rfl (Nat.le_of_ble_eq_true rfl) rfl rfl fl_RX2_9 rfl rfl rfl (by decide +kernel) (fun _ => rfl) (fun _ => rfl) (by decide) dX2_init_10 rfl ?_
  refine e_r_aload_n (pc' := 14) (by decide) dX2_init_13 rfl rfl rfl ?_
  refine e_r_iconst (pc' := 15) dX2_init_14 rfl (by decide) ?_
  refine e_r_puti (k := 1) (pc' := 18) cl_2 rfl (Nat.le_of_ble_eq_true rfl) rfl rfl fl_RX2_15 rfl (by decide +kernel) dX2_init_15 rfl ?_
  refine e_r_aload_n (pc' := 19) (by decide) dX2_init_18 rfl rfl rfl ?_
  refine e_r_sipush (pc' := 22) dX2_init_19 rfl (by decide) ?_
  refine e_q_newI (n := 150) (c1 := 26) (pc' := 24) rfl (by decide) h2 (by decide) (by decide) ac_int dX2_init_22 rfl ⟨(Nat.le_of_ble_eq_true rfl), Nat.le_refl _⟩ rfl ?_
  refine e_r_putr (fty := (.array .int)) (k := 2) (q := 26) (pc' := 27) cl_2 rfl (Nat.le_of_ble_eq_true rfl) rfl rfl fl_RX2_19 rfl rfl rfl (by decide +kernel) (fun _ => rfl) (fun _ => rfl) (by decide) dX2_init_24 rfl ?_
  refine e_r_aload_n (pc' := 28) (by decide) dX2_init_27 rfl rfl rfl ?_
  refine e_r_bipush (pc' := 30) dX2_init_28 rfl (by decide) ?_
  refine e_q_newI (n := 8) (c1 := 27) (pc' := 32) rfl (by decide) h4 (by decide) (by decide) ac_int dX2_init_30 rfl ⟨(Nat.le_of_ble_eq_true rfl), Nat.le_refl _⟩ rfl ?_
  refine e_r_putr (fty := (.array .int)) (k := 3) (q := 27) (pc' := 35) cl_2 rfl (Nat.le_of_ble_eq_true rfl) rfl rfl fl_RX2_22 rfl rfl rfl (by decide +kernel) (fun _ => rfl) (fun _ => rfl) (by decide) dX2_init_32 rfl ?_
  exact e_r_vret rfl dX2_init_35 rfl
set_option maxHeartbeats 4000000 in
set_option maxRecDepth 20000 in
theorem k_X0_init_28 {X : e_X} {d gn : Nat} {R : e_R} {M : e_M} (hR : ∀ a j, R a j ≤ 28) : e_E X (d + 1) YX0_init [.inr (.inr 28)] (28, gn, R, M) (.inl none, (29, gn, (e_uR (e_zR R 29) 28 2 29), (e_z (e_up (e_up M 28 0 0) 28 1 0) 29))) ∧ ∀ a j, (e_uR (e_zR R 29) 28 2 29) a j ≤ 29 := by
  have h1 := h_z (show 28 + 1 = 29 from rfl) hR
  have h2 := h_u (a0 := 28) (k := 2) h1 (show 29 ≤ 29 from (Nat.le_of_ble_eq_true rfl))
  refine ⟨?_, h2⟩
  show e_G X (d + 1) YX0_init 0 [some (.inr (.inr 28))] [] (28, gn, R, M) _
  refine e_r_aload_n (pc' := 1) (by decide) dX0_init_0 rfl rfl rfl ?_
  refine e_r_obj (pc' := 4) ob_RX0_3 ob_i ob_c (by decide) rfl dX0_init_1 rfl ?_
  refine e_r_aload_n (pc' := 5) (by decide) dX0_init_4 rfl rfl rfl ?_
  refine e_r_iconst (pc' := 6) dX0_init_5 rfl (by decide) ?_
  refine e_r_puti (k := 0) (pc' := 9) cl_0 rfl (Nat.le_of_ble_eq_true rfl) rfl rfl fl_RX0_9 rfl (by decide +kernel) dX0_init_6 rfl ?_
  refine e_r_aload_n (pc' := 10) (by decide) dX0_init_9 rfl rfl rfl ?_
  refine e_r_iconst (pc' := 11) dX0_init_10 rfl (by decide) ?_
  refine e_r_puti (k := 1) (pc' := 14) cl_0 rfl (Nat.le_of_ble_eq_true rfl) rfl rfl fl_RX0_15 rfl (by decide +kernel) dX0_init_11 rfl ?_
  refine e_r_aload_n (pc' := 15) (by decide) dX0_init_14 rfl rfl rfl ?_
  refine e_r_bipush (pc' := 17) dX0_init_15 rfl (by decide) ?_
  refine e_q_newI (n := 6) (c1 := 29) (pc' := 19) rfl (by decide) hR (by decide) (by decide) ac_int dX0_init_17 rfl ⟨(Nat.le_of_ble_eq_true rfl), Nat.le_refl _⟩ rfl ?_
  refine e_r_putr (fty := (.array .int)) (k := 2) (q := 29) (pc' := 22) cl_0 rfl (Nat.le_of_ble_eq_true rfl) rfl rfl fl_RX0_18 rfl rfl rfl (by decide +kernel) (fun _ => rfl) (fun _ => rfl) (by decide) dX0_init_19 rfl ?_
  exact e_r_vret rfl dX0_init_22 rfl
set_option maxHeartbeats 4000000 in
set_option maxRecDepth 20000 in
theorem k_X0_init_30 {X : e_X} {d gn : Nat} {R : e_R} {M : e_M} (hR : ∀ a j, R a j ≤ 30) : e_E X (d + 1) YX0_init [.inr (.inr 30)] (30, gn, R, M) (.inl none, (31, gn, (e_uR (e_zR R 31) 30 2 31), (e_z (e_up (e_up M 30 0 0) 30 1 0) 31))) ∧ ∀ a j, (e_uR (e_zR R 31) 30 2 31) a j ≤ 31 := by
  have h1 := h_z (show 30 + 1 = 31 from rfl) hR
  have h2 := h_u (a0 := 30) (k := 2) h1 (show 31 ≤ 31 from (Nat.le_of_ble_eq_true rfl))
  refine ⟨?_, h2⟩
  show e_G X (d + 1) YX0_init 0 [some (.inr (.inr 30))] [] (30, gn, R, M) _
  refine e_r_aload_n (pc' := 1) (by decide) dX0_init_0 rfl rfl rfl ?_
  refine e_r_obj (pc' := 4) ob_RX0_3 ob_i ob_c (by decide) rfl dX0_init_1 rfl ?_
  refine e_r_aload_n (pc' := 5) (by decide) dX0_init_4 rfl rfl rfl ?_
  refine e_r_iconst (pc' := 6) dX0_init_5 rfl (by decide) ?_
  refine e_r_puti (k := 0) (pc' := 9) cl_0 rfl (Nat.le_of_ble_eq_true rfl) rfl rfl fl_RX0_9 rfl (by decide +kernel) dX0_init_6 rfl ?_
  refine e_r_aload_n (pc' := 10) (by decide) dX0_init_9 rfl rfl rfl ?_
  refine e_r_iconst (pc' := 11) dX0_init_10 rfl (by decide) ?_
  refine e_r_puti (k := 1) (pc' := 14) cl_0 rfl (Nat.le_of_ble_eq_true rfl) rfl rfl fl_RX0_15 rfl (by decide +kernel) dX0_init_11 rfl ?_
  refine e_r_aload_n (pc' := 15) (by decide) dX0_init_14 rfl rfl rfl ?_
  refine e_r_bipush (pc' := 17) dX0_init_15 rfl (by decide) ?_
  refine e_q_newI (n := 6) (c1 := 31) (pc' := 19) rfl (by decide) hR (by decide) (by decide) ac_int dX0_init_17 rfl ⟨(Nat.le_of_ble_eq_true rfl), Nat.le_refl _⟩ rfl ?_
  refine e_r_putr (fty := (.array .int)) (k := 2) (q := 31) (pc' := 22) cl_0 rfl (Nat.le_of_ble_eq_true rfl) rfl rfl fl_RX0_18 rfl rfl rfl (by decide +kernel) (fun _ => rfl) (fun _ => rfl) (by decide) dX0_init_19 rfl ?_
  exact e_r_vret rfl dX0_init_22 rfl
set_option maxHeartbeats 4000000 in
set_option maxRecDepth 20000 in
theorem k_X4_init_32 {X : e_X} {d gn : Nat} {R : e_R} {M : e_M} (hR : ∀ a j, R a j ≤ 32) : e_E X (d + 1) YX4_init [.inr (.inr 32)] (32, gn, R, M) (.inl none, (35, gn, (e_uR (e_zR (e_uR (e_zR (e_uR (e_zR R 33) 32 1 33) 34) 32 2 34) 35) 32 3 35), (e_up (e_up (e_up (e_z (e_z (e_z (e_up M 32 0 0) 33) 34) 35) 32 4 0) 32 5 0) 32 6 0))) ∧ ∀ a j, (e_uR (e_zR (e_uR (e_zR (e_uR (e_zR R 33) 32 1 33) 34) 32 2 34) 35) 32 3 35) a j ≤ 35 := by
  have h1 := h_z (show 32 + 1 = 33 from rfl) hR
  have h2 := h_u (a0 := 32) (k := 1) h1 (show 33 ≤ 33 from (Nat.le_of_ble_eq_true rfl))
  have h3 := h_z (show 33 + 1 = 34 from rfl) h2
  have h4 := h_u (a0 := 32) (k := 2) h3 (show 34 ≤ 34 from (Nat.le_of_ble_eq_true rfl))
  have h5 := h_z (show 34 + 1 = 35 from rfl) h4
  have h6 := h_u (a0 := 32) (k := 3) h5 (show 35 ≤ 35 from (Nat.le_of_ble_eq_true rfl))
  refine ⟨?_, h6⟩
  show e_G X (d + 1) YX4_init 0 [some (.inr (.inr 32))] [] (32, gn, R, M) _
  refine e_r_aload_n (pc' := 1) (by decide) dX4_init_0 rfl rfl rfl ?_
  refine e_r_obj (pc' := 4) ob_RX4_3 ob_i ob_c (by decide) rfl dX4_init_1 rfl ?_
  refine e_r_aload_n (pc' := 5) (by decide) dX4_init_4 rfl rfl rfl ?_
  refine e_r_iconst (pc' := 6) dX4_init_5 rfl (by decide) ?_
  refine e_r_puti (k := 0) (pc' := 9) cl_4 rfl (Nat.le_of_ble_eq_true rfl) rfl rfl fl_RX4_9 rfl (by decide +kernel) dX4_init_6 rfl ?_
  refine e_r_aload_n (pc' := 10) (by decide) dX4_init_9 rfl rfl rfl ?_
  refine e_r_bipush (pc' := 12) dX4_init_10 rfl (by decide) ?_
  refine e_q_newI (n := 30) (c1 := 33) (pc' := 14) rfl (by decide) hR (by decide) (by decide) ac_int dX4_init_12 rfl ⟨(Nat.le_of_ble_eq_true rfl), Nat.le_refl _⟩ rfl ?_
  refine e_r_putr (fty := (.array .int)) (k := 1) (q := 33) (pc' := 17) cl_4 rfl (Nat.le_of_ble_eq_true rfl) rfl rfl fl_RX4_15 rfl rfl rfl (by decide +kernel) (fun _ => rfl) (fun _ => rfl) (by decide) dX4_init_14 rfl ?_
  refine e_r_aload_n (pc' := 18) (by decide) dX4_init_17 rfl rfl rfl ?_
  refine e_r_bipush (pc' := 20) dX4_init_18 rfl (by decide) ?_
  refine e_q_newI (n := 30) (c1 := 34) (pc' := 22) rfl (by decide) h2 (by decide) (by decide) ac_int dX4_init_20 rfl ⟨(Nat.le_of_ble_eq_true rfl), Nat.le_refl _⟩ rfl ?_
  refine e_r_putr (fty := (.array .int)) (k := 2) (q := 34) (pc' := 25) cl_4 rfl (Nat.le_of_ble_eq_true rfl) rfl rfl fl_RX4_19 rfl rfl rfl (by decide +kernel) (fun _ => rfl) (fun _ => rfl) (by decide) dX4_init_22 rfl ?_
  refine e_r_aload_n (pc' := 26) (by decide) dX4_init_25 rfl rfl rfl ?_
  refine e_r_bipush (pc' := 28) dX4_init_26 rfl (by decide) ?_
  refine e_q_newI (n := 30) (c1 := 35) (pc' := 30) rfl (by decide) h4 (by decide) (by decide) ac_int dX4_init_28 rfl ⟨(Nat.le_of_ble_eq_true rfl), Nat.le_refl _⟩ rfl ?_
  refine e_r_putr (fty := (.array .int)) (k := 3) (q := 35) (pc' := 33) cl_4 rfl (Nat.le_of_ble_eq_true rfl) rfl rfl fl_RX4_22 rfl rfl rfl (by decide +kernel) (fun _ => rfl) (fun _ => rfl) (by decide) dX4_init_30 rfl ?_
  refine e_r_aload_n (pc' := 34) (by decide) dX4_init_33 rfl rfl rfl ?_
  refine e_r_iconst (pc' := 35) dX4_init_34 rfl (by decide) ?_
  refine e_r_puti (k := 4) (pc' := 38) cl_4 rfl (Nat.le_of_ble_eq_true rfl) rfl rfl fl_RX4_25 rfl (by decide +kernel) dX4_init_35 rfl ?_
  refine e_r_aload_n (pc' := 39) (by decide) dX4_init_38 rfl rfl rfl ?_
  refine e_r_iconst (pc' := 40) dX4_init_39 rfl (by decide) ?_
  refine e_r_puti (k := 5) (pc' := 43) cl_4 rfl (Nat.le_of_ble_eq_true rfl) rfl rfl fl_RX4_28 rfl (by decide +kernel) dX4_init_40 rfl ?_
  refine e_r_aload_n (pc' := 44) (by decide) dX4_init_43 rfl rfl rfl ?_
  refine e_r_iconst (pc' := 45) dX4_init_44 rfl (by decide) ?_
  refine e_r_puti (k := 6) (pc' := 48) cl_4 rfl (Nat.le_of_ble_eq_true rfl) rfl rfl fl_RX4_31 rfl (by decide +kernel) dX4_init_45 rfl ?_
  exact e_r_vret rfl dX4_init_48 rfl
set_option maxHeartbeats 4000000 in
set_option maxRecDepth 20000 in
theorem k_X3_init_36 {X : e_X} {d gn : Nat} {R : e_R} {M : e_M} (hR : ∀ a j, R a j ≤ 36) : e_E X (d + 1) YX3_init [.inr (.inr 36), .inr (.inr 4), .inr (.inr 20)] (36, gn, R, M) (.inl none, (42, gn, (e_uR (e_uR (e_uR (e_zR (e_uR (e_zR (e_uR (e_zR (e_uR (e_zR (e_uR (e_zR (e_uR (e_zR R 37) 36 5 37) 38) 36 6 38) 39) 36 7 39) 40) 36 8 40) 41) 36 9 41) 42) 36 10 42) 36 0 4) 36 1 20), (e_z (e_z (e_z (e_z (e_z (e_z (e_up (e_up (e_up M 36 2 0) 36 3 0) 36 4 0) 37) 38) 39) 40) 41) 42))) ∧ ∀ a j, (e_uR (e_uR (e_uR (e_zR (e_uR (e_zR (e_uR (e_zR (e_uR (e_zR (e_uR (e_zR (e_uR (e_zR R 37) 36 5 37) 38) 36 6 38) 39) 36 7 39) 40) 36 8 40) 41) 36 9 41) 42) 36 10 42) 36 0 4) 36 1 20) a j ≤ 42 := by
  have h1 := h_z (show 36 + 1 = 37 from rfl) hR
  have h2 := h_u (a0 := 36) (k := 5) h1 (show 37 ≤ 37 from (Nat.le_of_ble_eq_true rfl))
  have h3 := h_z (show 37 + 1 = 38 from rfl) h2
  have h4 := h_u (a0 := 36) (k := 6) h3 (show 38 ≤ 38 from (Nat.le_of_ble_eq_true rfl))
  have h5 := h_z (show 38 + 1 = 39 from rfl) h4
  have h6 := h_u (a0 := 36) (k := 7) h5 (show 39 ≤ 39 from (Nat.le_of_ble_eq_true rfl))
  have h7 := h_z (show 39 + 1 = 40 from rfl) h6
  have h8 := h_u (a0 := 36) (k := 8) h7 (show 40 ≤ 40 from (Nat.le_of_ble_eq_true rfl))
  have h9 := h_z (show 40 + 1 = 41 from rfl) h8
  have h10 := h_u (a0 := 36) (k := 9) h9 (show 41 ≤ 41 from (Nat.le_of_ble_eq_true rfl))
  have h11 := h_z (show 41 + 1 = 42 from rfl) h10
  have h12 := h_u (a0 := 36) (k := 10) h11 (show 42 ≤ 42 from (Nat.le_of_ble_eq_true rfl))
  have h13 := h_u (a0 := 36) (k := 0) h12 (show 4 ≤ 42 from (Nat.le_of_ble_eq_true rfl))
  have h14 := h_u (a0 := 36) (k := 1) h13 (show 20 ≤ 42 from (Nat.le_of_ble_eq_true rfl))
  refine ⟨?_, h14⟩
  show e_G X (d + 1) YX3_init 0 [some (.inr (.inr 36)), some (.inr (.inr 4)), some (.inr (.inr 20))] [] (36, gn, R, M) _
  refine e_r_aload_n (pc' := 1) (by decide) dX3_init_0 rfl rfl rfl ?_
  refine e_r_obj (pc' := 4) ob_RX3_3 ob_i ob_c (by decide) rfl dX3_init_1 rfl ?_
  refine e_r_aload_n (pc' := 5) (by decide) dX3_init_4 rfl rfl rfl ?_
  refine e_r_iconst (pc' := 6) dX3_init_5 rfl (by decide) ?_
  refine e_r_puti (k := 2) (pc' := 9) cl_3 rfl (Nat.le_of_ble_eq_true rfl) rfl rfl fl_RX3_9 rfl (by decide +kernel) dX3_init_6 rfl ?_
  refine e_r_aload_n (pc' := 10) (by decide) dX3_init_9 rfl rfl rfl ?_
  refine e_r_iconst (pc' := 11) dX3_init_10 rfl (by decide) ?_
  refine e_r_puti (k := 3) (pc' := 14) cl_3 rfl (Nat.le_of_ble_eq_true rfl) rfl rfl fl_RX3_15 rfl (by decide +kernel) dX3_init_11 rfl ?_
  refine e_r_aload_n (pc' := 15) (by decide) dX3_init_14 rfl rfl rfl ?_
  refine e_r_iconst (pc' := 16) dX3_init_15 rfl (by decide) ?_
  refine e_r_puti (k := 4) (pc' := 19) cl_3 rfl (Nat.le_of_ble_eq_true rfl) rfl rfl fl_RX3_18 rfl (by decide +kernel) dX3_init_16 rfl ?_
  refine e_r_aload_n (pc' := 20) (by decide) dX3_init_19 rfl rfl rfl ?_
  refine e_r_bipush (pc' := 22) dX3_init_20 rfl (by decide) ?_
  refine e_q_newI (n := 6) (c1 := 37) (pc' := 24) rfl (by decide) hR (by decide) (by decide) ac_int dX3_init_22 rfl ⟨(Nat.le_of_ble_eq_true rfl), Nat.le_refl _⟩ rfl ?_
  refine e_r_putr (fty := (.array .int)) (k := 5) (q := 37) (pc' := 27) cl_3 rfl (Nat.le_of_ble_eq_true rfl) rfl rfl fl_RX3_21 rfl rfl rfl (by decide +kernel) (fun _ => rfl) (fun _ => rfl) (by decide) dX3_init_24 rfl ?_
  refine e_r_aload_n (pc' := 28) (by decide) dX3_init_27 rfl rfl rfl ?_
  refine e_r_bipush (pc' := 30) dX3_init_28 rfl (by decide) ?_
  refine e_q_newI (n := 6) (c1 := 38) (pc' := 32) rfl (by decide) h2 (by decide) (by decide) ac_int dX3_init_30 rfl ⟨(Nat.le_of_ble_eq_true rfl), Nat.le_refl _⟩ rfl ?_
  refine e_r_putr (fty := (.array .int)) (k := 6) (q := 38) (pc' := 35) cl_3 rfl (Nat.le_of_ble_eq_true rfl) rfl rfl fl_RX3_25 rfl rfl rfl (by decide +kernel) (fun _ => rfl) (fun _ => rfl) (by decide) dX3_init_32 rfl ?_
  refine e_r_aload_n (pc' := 36) (by decide) dX3_init_35 rfl rfl rfl ?_
  refine e_r_bipush (pc' := 38) dX3_init_36 rfl (by decide) ?_
  refine e_q_newI (n := 6) (c1 := 39) (pc' := 40) rfl (by decide) h4 (by decide) (by decide) ac_int dX3_init_38 rfl ⟨(Nat.le_of_ble_eq_true rfl), Nat.le_refl _⟩ rfl ?_
  refine e_r_putr (fty := (.array .int)) (k := 7) (q := 39) (pc' := 43) cl_3 rfl (Nat.le_of_ble_eq_true rfl) rfl rfl fl_RX3_28 rfl rfl rfl (by decide +kernel) (fun _ => rfl) (fun _ => rfl) (by decide) dX3_init_40 rfl ?_
  refine e_r_aload_n (pc' := 44) (by decide) dX3_init_43 rfl rfl rfl ?_
  refine e_r_bipush (pc' := 46) dX3_init_44 rfl (by decide) ?_
  refine e_q_newI (n := 6) (c1 := 40) (pc' := 48) rfl (by decide) h6 (by decide) (by decide) ac_int dX3_init_46 rfl ⟨(Nat.le_of_ble_eq_true rfl), Nat.le_refl _⟩ rfl ?_
  refine e_r_putr (fty := (.array .int)) (k := 8) (q := 40) (pc' := 51) cl_3 rfl (Nat.le_of_ble_eq_true rfl) rfl rfl fl_RX3_31 rfl rfl rfl (by decide +kernel) (fun _ => rfl) (fun _ => rfl) (by decide) dX3_init_48 rfl ?_
  refine e_r_aload_n (pc' := 52) (by decide) dX3_init_51 rfl rfl rfl ?_
  refine e_r_bipush (pc' := 54) dX3_init_52 rfl (by decide) ?_
  refine e_q_newI (n := 6) (c1 := 41) (pc' := 56) rfl (by decide) h8 (by decide) (by decide) ac_int dX3_init_54 rfl ⟨(Nat.le_of_ble_eq_true rfl), Nat.le_refl _⟩ rfl ?_
  refine e_r_putr (fty := (.array .int)) (k := 9) (q := 41) (pc' := 59) cl_3 rfl (Nat.le_of_ble_eq_true rfl) rfl rfl fl_RX3_34 rfl rfl rfl (by decide +kernel) (fun _ => rfl) (fun _ => rfl) (by decide) dX3_init_56 rfl ?_
  refine e_r_aload_n (pc' := 60) (by decide) dX3_init_59 rfl rfl rfl ?_
  refine e_r_bipush (pc' := 62) dX3_init_60 rfl (by decide) ?_
  refine e_q_newI (n := 12) (c1 := 42) (pc' := 64) rfl (by decide) h10 (by decide) (by decide) ac_int dX3_init_62 rfl ⟨(Nat.le_of_ble_eq_true rfl), Nat.le_refl _⟩ rfl ?_
  refine e_r_putr (fty := (.array .int)) (k := 10) (q := 42) (pc' := 67) cl_3 rfl (Nat.le_of_ble_eq_true rfl) rfl rfl fl_RX3_37 rfl rfl rfl (by decide +kernel) (fun _ => rfl) (fun _ => rfl) (by decide) dX3_init_64 rfl ?_
  refine e_r_aload_n (pc' := 68) (by decide) dX3_init_67 rfl rfl rfl ?_
  refine e_r_aload_n (pc' := 69) (by decide) dX3_init_68 rfl rfl rfl ?_
  refine e_r_putr (fty := (.object "BoughtMondays$Town")) (k := 0) (q := 4) (pc' := 72) cl_3 rfl (Nat.le_of_ble_eq_true rfl) rfl rfl fl_RX3_40 rfl rfl rfl (by decide +kernel) (fun _ => rfl) (fun _ => rfl) (by decide) dX3_init_69 rfl ?_
  refine e_r_aload_n (pc' := 73) (by decide) dX3_init_72 rfl rfl rfl ?_
  refine e_r_aload_n (pc' := 74) (by decide) dX3_init_73 rfl rfl rfl ?_
  refine e_r_putr (fty := (.object "BoughtMondays$Law")) (k := 1) (q := 20) (pc' := 77) cl_3 rfl (Nat.le_of_ble_eq_true rfl) rfl rfl fl_RX3_44 rfl rfl rfl (by decide +kernel) (fun _ => rfl) (fun _ => rfl) (by decide) dX3_init_74 rfl ?_
  exact e_r_vret rfl dX3_init_77 rfl
set_option maxHeartbeats 4000000 in
set_option maxRecDepth 20000 in
theorem k_X3_init_43 {X : e_X} {d gn : Nat} {R : e_R} {M : e_M} (hR : ∀ a j, R a j ≤ 43) : e_E X (d + 1) YX3_init [.inr (.inr 43), .inr (.inr 4), .inr (.inr 20)] (43, gn, R, M) (.inl none, (49, gn, (e_uR (e_uR (e_uR (e_zR (e_uR (e_zR (e_uR (e_zR (e_uR (e_zR (e_uR (e_zR (e_uR (e_zR R 44) 43 5 44) 45) 43 6 45) 46) 43 7 46) 47) 43 8 47) 48) 43 9 48) 49) 43 10 49) 43 0 4) 43 1 20), (e_z (e_z (e_z (e_z (e_z (e_z (e_up (e_up (e_up M 43 2 0) 43 3 0) 43 4 0) 44) 45) 46) 47) 48) 49))) ∧ ∀ a j, (e_uR (e_uR (e_uR (e_zR (e_uR (e_zR (e_uR (e_zR (e_uR (e_zR (e_uR (e_zR (e_uR (e_zR R 44) 43 5 44) 45) 43 6 45) 46) 43 7 46) 47) 43 8 47) 48) 43 9 48) 49) 43 10 49) 43 0 4) 43 1 20) a j ≤ 49 := by
  have h1 := h_z (show 43 + 1 = 44 from rfl) hR
  have h2 := h_u (a0 := 43) (k := 5) h1 (show 44 ≤ 44 from (Nat.le_of_ble_eq_true rfl))
  have h3 := h_z (show 44 + 1 = 45 from rfl) h2
  have h4 := h_u (a0 := 43) (k := 6) h3 (show 45 ≤ 45 from (Nat.le_of_ble_eq_true rfl))
  have h5 := h_z (show 45 + 1 = 46 from rfl) h4
  have h6 := h_u (a0 := 43) (k := 7) h5 (show 46 ≤ 46 from (Nat.le_of_ble_eq_true rfl))
  have h7 := h_z (show 46 + 1 = 47 from rfl) h6
  have h8 := h_u (a0 := 43) (k := 8) h7 (show 47 ≤ 47 from (Nat.le_of_ble_eq_true rfl))
  have h9 := h_z (show 47 + 1 = 48 from rfl) h8
  have h10 := h_u (a0 := 43) (k := 9) h9 (show 48 ≤ 48 from (Nat.le_of_ble_eq_true rfl))
  have h11 := h_z (show 48 + 1 = 49 from rfl) h10
  have h12 := h_u (a0 := 43) (k := 10) h11 (show 49 ≤ 49 from (Nat.le_of_ble_eq_true rfl))
  have h13 := h_u (a0 := 43) (k := 0) h12 (show 4 ≤ 49 from (Nat.le_of_ble_eq_true rfl))
  have h14 := h_u (a0 := 43) (k := 1) h13 (show 20 ≤ 49 from (Nat.le_of_ble_eq_true rfl))
  refine ⟨?_, h14⟩
  show e_G X (d + 1) YX3_init 0 [some (.inr (.inr 43)), some (.inr (.inr 4)), some (.inr (.inr 20))] [] (43, gn, R, M) _
  refine e_r_aload_n (pc' := 1) (by decide) dX3_init_0 rfl rfl rfl ?_
  refine e_r_obj (pc' := 4) ob_RX3_3 ob_i ob_c (by decide) rfl dX3_init_1 rfl ?_
  refine e_r_aload_n (pc' := 5) (by decide) dX3_init_4 rfl rfl rfl ?_
  refine e_r_iconst (pc' := 6) dX3_init_5 rfl (by decide) ?_
  refine e_r_puti (k := 2) (pc' := 9) cl_3 rfl (Nat.le_of_ble_eq_true rfl) rfl rfl fl_RX3_9 rfl (by decide +kernel) dX3_init_6 rfl ?_
  refine e_r_aload_n (pc' := 10) (by decide) dX3_init_9 rfl rfl rfl ?_
  refine e_r_iconst (pc' := 11) dX3_init_10 rfl (by decide) ?_
  refine e_r_puti (k := 3) (pc' := 14) cl_3 rfl (Nat.le_of_ble_eq_true rfl) rfl rfl fl_RX3_15 rfl (by decide +kernel) dX3_init_11 rfl ?_
  refine e_r_aload_n (pc' := 15) (by decide) dX3_init_14 rfl rfl rfl ?_
  refine e_r_iconst (pc' := 16) dX3_init_15 rfl (by decide) ?_
  refine e_r_puti (k := 4) (pc' := 19) cl_3 rfl (Nat.le_of_ble_eq_true rfl) rfl rfl fl_RX3_18 rfl (by decide +kernel) dX3_init_16 rfl ?_
  refine e_r_aload_n (pc' := 20) (by decide) dX3_init_19 rfl rfl rfl ?_
  refine e_r_bipush (pc' := 22) dX3_init_20 rfl (by decide) ?_
  refine e_q_newI (n := 6) (c1 := 44) (pc' := 24) rfl (by decide) hR (by decide) (by decide) ac_int dX3_init_22 rfl ⟨(Nat.le_of_ble_eq_true rfl), Nat.le_refl _⟩ rfl ?_
  refine e_r_putr (fty := (.array .int)) (k := 5) (q := 44) (pc' := 27) cl_3 rfl (Nat.le_of_ble_eq_true rfl) rfl rfl fl_RX3_21 rfl rfl rfl (by decide +kernel) (fun _ => rfl) (fun _ => rfl) (by decide) dX3_init_24 rfl ?_
  refine e_r_aload_n (pc' := 28) (by decide) dX3_init_27 rfl rfl rfl ?_
  refine e_r_bipush (pc' := 30) dX3_init_28 rfl (by decide) ?_
  refine e_q_newI (n := 6) (c1 := 45) (pc' := 32) rfl (by decide) h2 (by decide) (by decide) ac_int dX3_init_30 rfl ⟨(Nat.le_of_ble_eq_true rfl), Nat.le_refl _⟩ rfl ?_
  refine e_r_putr (fty := (.array .int)) (k := 6) (q := 45) (pc' := 35) cl_3 rfl (Nat.le_of_ble_eq_true rfl) rfl rfl fl_RX3_25 rfl rfl rfl (by decide +kernel) (fun _ => rfl) (fun _ => rfl) (by decide) dX3_init_32 rfl ?_
  refine e_r_aload_n (pc' := 36) (by decide) dX3_init_35 rfl rfl rfl ?_
  refine e_r_bipush (pc' := 38) dX3_init_36 rfl (by decide) ?_
  refine e_q_newI (n := 6) (c1 := 46) (pc' := 40) rfl (by decide) h4 (by decide) (by decide) ac_int dX3_init_38 rfl ⟨(Nat.le_of_ble_eq_true rfl), Nat.le_refl _⟩ rfl ?_
  refine e_r_putr (fty := (.array .int)) (k := 7) (q := 46) (pc' := 43) cl_3 rfl (Nat.le_of_ble_eq_true rfl) rfl rfl fl_RX3_28 rfl rfl rfl (by decide +kernel) (fun _ => rfl) (fun _ => rfl) (by decide) dX3_init_40 rfl ?_
  refine e_r_aload_n (pc' := 44) (by decide) dX3_init_43 rfl rfl rfl ?_
  refine e_r_bipush (pc' := 46) dX3_init_44 rfl (by decide) ?_
  refine e_q_newI (n := 6) (c1 := 47) (pc' := 48) rfl (by decide) h6 (by decide) (by decide) ac_int dX3_init_46 rfl ⟨(Nat.le_of_ble_eq_true rfl), Nat.le_refl _⟩ rfl ?_
  refine e_r_putr (fty := (.array .int)) (k := 8) (q := 47) (pc' := 51) cl_3 rfl (Nat.le_of_ble_eq_true rfl) rfl rfl fl_RX3_31 rfl rfl rfl (by decide +kernel) (fun _ => rfl) (fun _ => rfl) (by decide) dX3_init_48 rfl ?_
  refine e_r_aload_n (pc' := 52) (by decide) dX3_init_51 rfl rfl rfl ?_
  refine e_r_bipush (pc' := 54) dX3_init_52 rfl (by decide) ?_
  refine e_q_newI (n := 6) (c1 := 48) (pc' := 56) rfl (by decide) h8 (by decide) (by decide) ac_int dX3_init_54 rfl ⟨(Nat.le_of_ble_eq_true rfl), Nat.le_refl _⟩ rfl ?_
  refine e_r_putr (fty := (.array .int)) (k := 9) (q := 48) (pc' := 59) cl_3 rfl (Nat.le_of_ble_eq_true rfl) rfl rfl fl_RX3_34 rfl rfl rfl (by decide +kernel) (fun _ => rfl) (fun _ => rfl) (by decide) dX3_init_56 rfl ?_
  refine e_r_aload_n (pc' := 60) (by decide) dX3_init_59 rfl rfl rfl ?_
  refine e_r_bipush (pc' := 62) dX3_init_60 rfl (by decide) ?_
  refine e_q_newI (n := 12) (c1 := 49) (pc' := 64) rfl (by decide) h10 (by decide) (by decide) ac_int dX3_init_62 rfl ⟨(Nat.le_of_ble_eq_true rfl), Nat.le_refl _⟩ rfl ?_
  refine e_r_putr (fty := (.array .int)) (k := 10) (q := 49) (pc' := 67) cl_3 rfl (Nat.le_of_ble_eq_true rfl) rfl rfl fl_RX3_37 rfl rfl rfl (by decide +kernel) (fun _ => rfl) (fun _ => rfl) (by decide) dX3_init_64 rfl ?_
  refine e_r_aload_n (pc' := 68) (by decide) dX3_init_67 rfl rfl rfl ?_
  refine e_r_aload_n (pc' := 69) (by decide) dX3_init_68 rfl rfl rfl ?_
  refine e_r_putr (fty := (.object "BoughtMondays$Town")) (k := 0) (q := 4) (pc' := 72) cl_3 rfl (Nat.le_of_ble_eq_true rfl) rfl rfl fl_RX3_40 rfl rfl rfl (by decide +kernel) (fun _ => rfl) (fun _ => rfl) (by decide) dX3_init_69 rfl ?_
  refine e_r_aload_n (pc' := 73) (by decide) dX3_init_72 rfl rfl rfl ?_
  refine e_r_aload_n (pc' := 74) (by decide) dX3_init_73 rfl rfl rfl ?_
  refine e_r_putr (fty := (.object "BoughtMondays$Law")) (k := 1) (q := 20) (pc' := 77) cl_3 rfl (Nat.le_of_ble_eq_true rfl) rfl rfl fl_RX3_44 rfl rfl rfl (by decide +kernel) (fun _ => rfl) (fun _ => rfl) (by decide) dX3_init_74 rfl ?_
  exact e_r_vret rfl dX3_init_77 rfl
set_option maxHeartbeats 4000000 in
set_option maxRecDepth 20000 in
theorem k_X1_init_50 {X : e_X} {d gn : Nat} {R : e_R} {M : e_M} (hR : ∀ a j, R a j ≤ 50) : e_E X (d + 1) YX1_init [.inr (.inr 50), .inr (.inr 4)] (50, gn, R, M) (.inl none, (52, gn, (e_uR (e_uR (e_zR (e_uR (e_zR R 51) 50 1 51) 52) 50 2 52) 50 0 4), (e_z (e_z M 51) 52))) ∧ ∀ a j, (e_uR (e_uR (e_zR (e_uR (e_zR R 51) 50 1 51) 52) 50 2 52) 50 0 4) a j ≤ 52 := by
  have h1 := h_z (show 50 + 1 = 51 from rfl) hR
  have h2 := h_u (a0 := 50) (k := 1) h1 (show 51 ≤ 51 from (Nat.le_of_ble_eq_true rfl))
  have h3 := h_z (show 51 + 1 = 52 from rfl) h2
  have h4 := h_u (a0 := 50) (k := 2) h3 (show 52 ≤ 52 from (Nat.le_of_ble_eq_true rfl))
  have h5 := h_u (a0 := 50) (k := 0) h4 (show 4 ≤ 52 from (Nat.le_of_ble_eq_true rfl))
  refine ⟨?_, h5⟩
  show e_G X (d + 1) YX1_init 0 [some (.inr (.inr 50)), some (.inr (.inr 4))] [] (50, gn, R, M) _
  refine e_r_aload_n (pc' := 1) (by decide) dX1_init_0 rfl rfl rfl ?_
  refine e_r_obj (pc' := 4) ob_RX1_3 ob_i ob_c (by decide) rfl dX1_init_1 rfl ?_
  refine e_r_aload_n (pc' := 5) (by decide) dX1_init_4 rfl rfl rfl ?_
  refine e_r_sipush (pc' := 8) dX1_init_5 rfl (by decide) ?_
  refine e_q_newI (n := 448) (c1 := 51) (pc' := 10) rfl (by decide) hR (by decide) (by decide) ac_int dX1_init_8 rfl ⟨(Nat.le_of_ble_eq_true rfl), Nat.le_refl _⟩ rfl ?_
  refine e_r_putr (fty := (.array .int)) (k := 1) (q := 51) (pc' := 13) cl_1 rfl (Nat.le_of_ble_eq_true rfl) rfl rfl fl_RX1_11 rfl rfl rfl (by decide +kernel) (fun _ => rfl) (fun _ => rfl) (by decide) dX1_init_10 rfl ?_
  refine e_r_aload_n (pc' := 14) (by decide) dX1_init_13 rfl rfl rfl ?_
  refine e_r_bipush (pc' := 16) dX1_init_14 rfl (by decide) ?_
  refine e_q_newI (n := 6) (c1 := 52) (pc' := 18) rfl (by decide) h2 (by decide) (by decide) ac_int dX1_init_16 rfl ⟨(Nat.le_of_ble_eq_true rfl), Nat.le_refl _⟩ rfl ?_
  refine e_r_putr (fty := (.array .int)) (k := 2) (q := 52) (pc' := 21) cl_1 rfl (Nat.le_of_ble_eq_true rfl) rfl rfl fl_RX1_15 rfl rfl rfl (by decide +kernel) (fun _ => rfl) (fun _ => rfl) (by decide) dX1_init_18 rfl ?_
  refine e_r_aload_n (pc' := 22) (by decide) dX1_init_21 rfl rfl rfl ?_
  refine e_r_aload_n (pc' := 23) (by decide) dX1_init_22 rfl rfl rfl ?_
  refine e_r_putr (fty := (.object "BoughtMondays$Town")) (k := 0) (q := 4) (pc' := 26) cl_1 rfl (Nat.le_of_ble_eq_true rfl) rfl rfl fl_RX1_18 rfl rfl rfl (by decide +kernel) (fun _ => rfl) (fun _ => rfl) (by decide) dX1_init_23 rfl ?_
  exact e_r_vret rfl dX1_init_26 rfl
set_option maxHeartbeats 4000000 in
set_option maxRecDepth 20000 in
theorem k_X6_init_53 {X : e_X} {d gn : Nat} {R : e_R} {M : e_M} (hR : ∀ a j, R a j ≤ 53) : e_E X (d + 1) YX6_init [.inr (.inr 53), .inr (.inr 4), .inr (.inr 20)] (53, gn, R, M) (.inl none, (53, gn, (e_uR (e_uR R 53 0 4) 53 1 20), (e_up (e_up (e_up (e_up (e_up (e_up (e_up M 53 2 0) 53 3 0) 53 4 0) 53 5 0) 53 6 0) 53 7 0) 53 8 0))) ∧ ∀ a j, (e_uR (e_uR R 53 0 4) 53 1 20) a j ≤ 53 := by
  have h1 := h_u (a0 := 53) (k := 0) hR (show 4 ≤ 53 from (Nat.le_of_ble_eq_true rfl))
  have h2 := h_u (a0 := 53) (k := 1) h1 (show 20 ≤ 53 from (Nat.le_of_ble_eq_true rfl))
  refine ⟨?_, h2⟩
  show e_G X (d + 1) YX6_init 0 [some (.inr (.inr 53)), some (.inr (.inr 4)), some (.inr (.inr 20))] [] (53, gn, R, M) _
  refine e_r_aload_n (pc' := 1) (by decide) dX6_init_0 rfl rfl rfl ?_
  refine e_r_obj (pc' := 4) ob_RX6_3 ob_i ob_c (by decide) rfl dX6_init_1 rfl ?_
  refine e_r_aload_n (pc' := 5) (by decide) dX6_init_4 rfl rfl rfl ?_
  refine e_r_iconst (pc' := 6) dX6_init_5 rfl (by decide) ?_
  refine e_r_puti (k := 2) (pc' := 9) cl_6 rfl (Nat.le_of_ble_eq_true rfl) rfl rfl fl_RX6_9 rfl (by decide +kernel) dX6_init_6 rfl ?_
  refine e_r_aload_n (pc' := 10) (by decide) dX6_init_9 rfl rfl rfl ?_
  refine e_r_iconst (pc' := 11) dX6_init_10 rfl (by decide) ?_
  refine e_r_puti (k := 3) (pc' := 14) cl_6 rfl (Nat.le_of_ble_eq_true rfl) rfl rfl fl_RX6_15 rfl (by decide +kernel) dX6_init_11 rfl ?_
  refine e_r_aload_n (pc' := 15) (by decide) dX6_init_14 rfl rfl rfl ?_
  refine e_r_iconst (pc' := 16) dX6_init_15 rfl (by decide) ?_
  refine e_r_puti (k := 4) (pc' := 19) cl_6 rfl (Nat.le_of_ble_eq_true rfl) rfl rfl fl_RX6_18 rfl (by decide +kernel) dX6_init_16 rfl ?_
  refine e_r_aload_n (pc' := 20) (by decide) dX6_init_19 rfl rfl rfl ?_
  refine e_r_iconst (pc' := 21) dX6_init_20 rfl (by decide) ?_
  refine e_r_puti (k := 5) (pc' := 24) cl_6 rfl (Nat.le_of_ble_eq_true rfl) rfl rfl fl_RX6_21 rfl (by decide +kernel) dX6_init_21 rfl ?_
  refine e_r_aload_n (pc' := 25) (by decide) dX6_init_24 rfl rfl rfl ?_
  refine e_r_iconst (pc' := 26) dX6_init_25 rfl (by decide) ?_
  refine e_r_puti (k := 6) (pc' := 29) cl_6 rfl (Nat.le_of_ble_eq_true rfl) rfl rfl fl_RX6_24 rfl (by decide +kernel) dX6_init_26 rfl ?_
  refine e_r_aload_n (pc' := 30) (by decide) dX6_init_29 rfl rfl rfl ?_
  refine e_r_iconst (pc' := 31) dX6_init_30 rfl (by decide) ?_
  refine e_r_puti (k := 7) (pc' := 34) cl_6 rfl (Nat.le_of_ble_eq_true rfl) rfl rfl fl_RX6_27 rfl (by decide +kernel) dX6_init_31 rfl ?_
  refine e_r_aload_n (pc' := 35) (by decide) dX6_init_34 rfl rfl rfl ?_
  refine e_r_iconst (pc' := 36) dX6_init_35 rfl (by decide) ?_
  refine e_r_puti (k := 8) (pc' := 39) cl_6 rfl (Nat.le_of_ble_eq_true rfl) rfl rfl fl_RX6_30 rfl (by decide +kernel) dX6_init_36 rfl ?_
  refine e_r_aload_n (pc' := 40) (by decide) dX6_init_39 rfl rfl rfl ?_
  refine e_r_aload_n (pc' := 41) (by decide) dX6_init_40 rfl rfl rfl ?_
  refine e_r_putr (fty := (.object "BoughtMondays$Town")) (k := 0) (q := 4) (pc' := 44) cl_6 rfl (Nat.le_of_ble_eq_true rfl) rfl rfl fl_RX6_33 rfl rfl rfl (by decide +kernel) (fun _ => rfl) (fun _ => rfl) (by decide) dX6_init_41 rfl ?_
  refine e_r_aload_n (pc' := 45) (by decide) dX6_init_44 rfl rfl rfl ?_
  refine e_r_aload_n (pc' := 46) (by decide) dX6_init_45 rfl rfl rfl ?_
  refine e_r_putr (fty := (.object "BoughtMondays$Law")) (k := 1) (q := 20) (pc' := 49) cl_6 rfl (Nat.le_of_ble_eq_true rfl) rfl rfl fl_RX6_37 rfl rfl rfl (by decide +kernel) (fun _ => rfl) (fun _ => rfl) (by decide) dX6_init_46 rfl ?_
  exact e_r_vret rfl dX6_init_49 rfl
set_option maxHeartbeats 4000000 in
set_option maxRecDepth 20000 in
theorem k_X9_init_54 {X : e_X} {d gn : Nat} {R : e_R} {M : e_M} (hR : ∀ a j, R a j ≤ 54) : e_E X (d + 1) YX9_init [.inr (.inr 54), .inr (.inr 43)] (54, gn, R, M) (.inl none, (54, gn, (e_uR R 54 0 43), (e_up (e_up M 54 1 0) 54 2 0))) ∧ ∀ a j, (e_uR R 54 0 43) a j ≤ 54 := by
  have h1 := h_u (a0 := 54) (k := 0) hR (show 43 ≤ 54 from (Nat.le_of_ble_eq_true rfl))
  refine ⟨?_, h1⟩
  show e_G X (d + 1) YX9_init 0 [some (.inr (.inr 54)), some (.inr (.inr 43))] [] (54, gn, R, M) _
  refine e_r_aload_n (pc' := 1) (by decide) dX9_init_0 rfl rfl rfl ?_
  refine e_r_obj (pc' := 4) ob_RX9_1 ob_i ob_c (by decide) rfl dX9_init_1 rfl ?_
  refine e_r_aload_n (pc' := 5) (by decide) dX9_init_4 rfl rfl rfl ?_
  refine e_r_iconst (pc' := 6) dX9_init_5 rfl (by decide) ?_
  refine e_r_puti (k := 1) (pc' := 9) cl_9 rfl (Nat.le_of_ble_eq_true rfl) rfl rfl fl_RX9_7 rfl (by decide +kernel) dX9_init_6 rfl ?_
  refine e_r_aload_n (pc' := 10) (by decide) dX9_init_9 rfl rfl rfl ?_
  refine e_r_iconst (pc' := 11) dX9_init_10 rfl (by decide) ?_
  refine e_r_puti (k := 2) (pc' := 14) cl_9 rfl (Nat.le_of_ble_eq_true rfl) rfl rfl fl_RX9_13 rfl (by decide +kernel) dX9_init_11 rfl ?_
  refine e_r_aload_n (pc' := 15) (by decide) dX9_init_14 rfl rfl rfl ?_
  refine e_r_aload_n (pc' := 16) (by decide) dX9_init_15 rfl rfl rfl ?_
  refine e_r_putr (fty := (.object "BoughtMondays$Life")) (k := 0) (q := 43) (pc' := 19) cl_9 rfl (Nat.le_of_ble_eq_true rfl) rfl rfl fl_RX9_16 rfl rfl rfl (by decide +kernel) (fun _ => rfl) (fun _ => rfl) (by decide) dX9_init_16 rfl ?_
  exact e_r_vret rfl dX9_init_19 rfl
set_option maxHeartbeats 4000000 in
set_option maxRecDepth 20000 in
theorem k_X5_init_55 {X : e_X} {d gn : Nat} {R : e_R} {M : e_M} (hR : ∀ a j, R a j ≤ 55) : e_E X (d + 1) YX5_init [.inr (.inr 55)] (55, gn, R, M) (.inl none, (56, gn, (e_uR (e_zR R 56) 55 0 56), (e_up (e_z M 56) 55 1 0))) ∧ ∀ a j, (e_uR (e_zR R 56) 55 0 56) a j ≤ 56 := by
  have h1 := h_z (show 55 + 1 = 56 from rfl) hR
  have h2 := h_u (a0 := 55) (k := 0) h1 (show 56 ≤ 56 from (Nat.le_of_ble_eq_true rfl))
  refine ⟨?_, h2⟩
  show e_G X (d + 1) YX5_init 0 [some (.inr (.inr 55))] [] (55, gn, R, M) _
  refine e_r_aload_n (pc' := 1) (by decide) dX5_init_0 rfl rfl rfl ?_
  refine e_r_obj (pc' := 4) ob_RX5_3 ob_i ob_c (by decide) rfl dX5_init_1 rfl ?_
  refine e_r_aload_n (pc' := 5) (by decide) dX5_init_4 rfl rfl rfl ?_
  refine e_r_sipush (pc' := 8) dX5_init_5 rfl (by decide) ?_
  refine e_q_newI (n := 765) (c1 := 56) (pc' := 10) rfl (by decide) hR (by decide) (by decide) ac_int dX5_init_8 rfl ⟨(Nat.le_of_ble_eq_true rfl), Nat.le_refl _⟩ rfl ?_
  refine e_r_putr (fty := (.array .int)) (k := 0) (q := 56) (pc' := 13) cl_5 rfl (Nat.le_of_ble_eq_true rfl) rfl rfl fl_RX5_13 rfl rfl rfl (by decide +kernel) (fun _ => rfl) (fun _ => rfl) (by decide) dX5_init_10 rfl ?_
  refine e_r_aload_n (pc' := 14) (by decide) dX5_init_13 rfl rfl rfl ?_
  refine e_r_iconst (pc' := 15) dX5_init_14 rfl (by decide) ?_
  refine e_r_puti (k := 1) (pc' := 18) cl_5 rfl (Nat.le_of_ble_eq_true rfl) rfl rfl fl_RX5_17 rfl (by decide +kernel) dX5_init_15 rfl ?_
  exact e_r_vret rfl dX5_init_18 rfl
set_option maxHeartbeats 4000000 in
set_option maxRecDepth 20000 in
theorem k_X5_init_58 {X : e_X} {d gn : Nat} {R : e_R} {M : e_M} (hR : ∀ a j, R a j ≤ 58) : e_E X (d + 1) YX5_init [.inr (.inr 58)] (58, gn, R, M) (.inl none, (59, gn, (e_uR (e_zR R 59) 58 0 59), (e_up (e_z M 59) 58 1 0))) ∧ ∀ a j, (e_uR (e_zR R 59) 58 0 59) a j ≤ 59 := by
  have h1 := h_z (show 58 + 1 = 59 from rfl) hR
  have h2 := h_u (a0 := 58) (k := 0) h1 (show 59 ≤ 59 from (Nat.le_of_ble_eq_true rfl))
  refine ⟨?_, h2⟩
  show e_G X (d + 1) YX5_init 0 [some (.inr (.inr 58))] [] (58, gn, R, M) _
  refine e_r_aload_n (pc' := 1) (by decide) dX5_init_0 rfl rfl rfl ?_
  refine e_r_obj (pc' := 4) ob_RX5_3 ob_i ob_c (by decide) rfl dX5_init_1 rfl ?_
  refine e_r_aload_n (pc' := 5) (by decide) dX5_init_4 rfl rfl rfl ?_
  refine e_r_sipush (pc' := 8) dX5_init_5 rfl (by decide) ?_
  refine e_q_newI (n := 765) (c1 := 59) (pc' := 10) rfl (by decide) hR (by decide) (by decide) ac_int dX5_init_8 rfl ⟨(Nat.le_of_ble_eq_true rfl), Nat.le_refl _⟩ rfl ?_
  refine e_r_putr (fty := (.array .int)) (k := 0) (q := 59) (pc' := 13) cl_5 rfl (Nat.le_of_ble_eq_true rfl) rfl rfl fl_RX5_13 rfl rfl rfl (by decide +kernel) (fun _ => rfl) (fun _ => rfl) (by decide) dX5_init_10 rfl ?_
  refine e_r_aload_n (pc' := 14) (by decide) dX5_init_13 rfl rfl rfl ?_
  refine e_r_iconst (pc' := 15) dX5_init_14 rfl (by decide) ?_
  refine e_r_puti (k := 1) (pc' := 18) cl_5 rfl (Nat.le_of_ble_eq_true rfl) rfl rfl fl_RX5_17 rfl (by decide +kernel) dX5_init_15 rfl ?_
  exact e_r_vret rfl dX5_init_18 rfl
set_option maxHeartbeats 4000000 in
set_option maxRecDepth 20000 in
theorem k_X5_init_60 {X : e_X} {d gn : Nat} {R : e_R} {M : e_M} (hR : ∀ a j, R a j ≤ 60) : e_E X (d + 1) YX5_init [.inr (.inr 60)] (60, gn, R, M) (.inl none, (61, gn, (e_uR (e_zR R 61) 60 0 61), (e_up (e_z M 61) 60 1 0))) ∧ ∀ a j, (e_uR (e_zR R 61) 60 0 61) a j ≤ 61 := by
  have h1 := h_z (show 60 + 1 = 61 from rfl) hR
  have h2 := h_u (a0 := 60) (k := 0) h1 (show 61 ≤ 61 from (Nat.le_of_ble_eq_true rfl))
  refine ⟨?_, h2⟩
  show e_G X (d + 1) YX5_init 0 [some (.inr (.inr 60))] [] (60, gn, R, M) _
  refine e_r_aload_n (pc' := 1) (by decide) dX5_init_0 rfl rfl rfl ?_
  refine e_r_obj (pc' := 4) ob_RX5_3 ob_i ob_c (by decide) rfl dX5_init_1 rfl ?_
  refine e_r_aload_n (pc' := 5) (by decide) dX5_init_4 rfl rfl rfl ?_
  refine e_r_sipush (pc' := 8) dX5_init_5 rfl (by decide) ?_
  refine e_q_newI (n := 765) (c1 := 61) (pc' := 10) rfl (by decide) hR (by decide) (by decide) ac_int dX5_init_8 rfl ⟨(Nat.le_of_ble_eq_true rfl), Nat.le_refl _⟩ rfl ?_
  refine e_r_putr (fty := (.array .int)) (k := 0) (q := 61) (pc' := 13) cl_5 rfl (Nat.le_of_ble_eq_true rfl) rfl rfl fl_RX5_13 rfl rfl rfl (by decide +kernel) (fun _ => rfl) (fun _ => rfl) (by decide) dX5_init_10 rfl ?_
  refine e_r_aload_n (pc' := 14) (by decide) dX5_init_13 rfl rfl rfl ?_
  refine e_r_iconst (pc' := 15) dX5_init_14 rfl (by decide) ?_
  refine e_r_puti (k := 1) (pc' := 18) cl_5 rfl (Nat.le_of_ble_eq_true rfl) rfl rfl fl_RX5_17 rfl (by decide +kernel) dX5_init_15 rfl ?_
  exact e_r_vret rfl dX5_init_18 rfl
set_option maxHeartbeats 4000000 in
set_option maxRecDepth 20000 in
theorem k_X5_init_62 {X : e_X} {d gn : Nat} {R : e_R} {M : e_M} (hR : ∀ a j, R a j ≤ 62) : e_E X (d + 1) YX5_init [.inr (.inr 62)] (62, gn, R, M) (.inl none, (63, gn, (e_uR (e_zR R 63) 62 0 63), (e_up (e_z M 63) 62 1 0))) ∧ ∀ a j, (e_uR (e_zR R 63) 62 0 63) a j ≤ 63 := by
  have h1 := h_z (show 62 + 1 = 63 from rfl) hR
  have h2 := h_u (a0 := 62) (k := 0) h1 (show 63 ≤ 63 from (Nat.le_of_ble_eq_true rfl))
  refine ⟨?_, h2⟩
  show e_G X (d + 1) YX5_init 0 [some (.inr (.inr 62))] [] (62, gn, R, M) _
  refine e_r_aload_n (pc' := 1) (by decide) dX5_init_0 rfl rfl rfl ?_
  refine e_r_obj (pc' := 4) ob_RX5_3 ob_i ob_c (by decide) rfl dX5_init_1 rfl ?_
  refine e_r_aload_n (pc' := 5) (by decide) dX5_init_4 rfl rfl rfl ?_
  refine e_r_sipush (pc' := 8) dX5_init_5 rfl (by decide) ?_
  refine e_q_newI (n := 765) (c1 := 63) (pc' := 10) rfl (by decide) hR (by decide) (by decide) ac_int dX5_init_8 rfl ⟨(Nat.le_of_ble_eq_true rfl), Nat.le_refl _⟩ rfl ?_
  refine e_r_putr (fty := (.array .int)) (k := 0) (q := 63) (pc' := 13) cl_5 rfl (Nat.le_of_ble_eq_true rfl) rfl rfl fl_RX5_13 rfl rfl rfl (by decide +kernel) (fun _ => rfl) (fun _ => rfl) (by decide) dX5_init_10 rfl ?_
  refine e_r_aload_n (pc' := 14) (by decide) dX5_init_13 rfl rfl rfl ?_
  refine e_r_iconst (pc' := 15) dX5_init_14 rfl (by decide) ?_
  refine e_r_puti (k := 1) (pc' := 18) cl_5 rfl (Nat.le_of_ble_eq_true rfl) rfl rfl fl_RX5_17 rfl (by decide +kernel) dX5_init_15 rfl ?_
  exact e_r_vret rfl dX5_init_18 rfl
set_option maxHeartbeats 4000000 in
set_option maxRecDepth 20000 in
theorem k_x {X : e_X} {d gn : Nat} {R : e_R} {M : e_M} {o : e_O} (hR : ∀ a j, R a j ≤ 1) (hmo : e_mn (63, gn, R, M) o.2) (k9 : e_G X (d + 2) YX10_init 239 [some (.inr (.inr 1)), some (.inl 3)] [] (63, gn, (e_uR (e_uR (e_zR (e_zR (e_uR (e_uR (e_zR (e_zR (e_uR (e_uR (e_zR (e_zR (e_uR (e_zR (e_uR (e_uR (e_zR (e_zR (e_uR (e_uR (e_zR (e_uR (e_uR (e_uR (e_zR (e_uR (e_uR (e_uR (e_zR (e_uR (e_zR (e_zR (e_uR (e_uR (e_uR (e_uR (e_zR (e_uR (e_zR (e_uR (e_zR (e_uR (e_zR (e_uR (e_zR (e_uR (e_zR (e_zR (e_uR (e_uR (e_uR (e_uR (e_zR (e_uR (e_zR (e_uR (e_zR (e_uR (e_zR (e_uR (e_zR (e_uR (e_zR (e_zR (e_uR (e_uR (e_zR (e_uR (e_zR (e_uR (e_zR (e_zR (e_uR (e_uR (e_zR (e_zR (e_uR (e_uR (e_zR (e_zR (e_uR (e_uR (e_zR (e_uR (e_zR (e_uR (e_zR (e_zR (e_uR (e_uR (e_zR (e_uR (e_zR (e_uR (e_zR (e_zR (e_uR (e_uR (e_zR (e_uR (e_zR (e_uR (e_zR (e_uR (e_zR (e_uR (e_zR (e_uR (e_zR (e_uR (e_zR (e_zR (e_uR (e_uR (e_zR (e_uR (e_zR (e_uR (e_zR (e_uR (e_zR (e_uR (e_zR (e_uR (e_zR (e_uR (e_zR (e_zR (e_uR (e_uR (e_zR (e_zR R 2) 3) 2 0 3) 1 0 2) 4) 5) 4 3 5) 6) 4 4 6) 7) 4 5 7) 8) 4 6 8) 9) 4 7 9) 10) 4 8 10) 11) 4 9 11) 1 1 4) 12) 13) 12 3 13) 14) 12 4 14) 15) 12 5 15) 16) 12 6 16) 17) 12 7 17) 18) 12 8 18) 19) 12 9 19) 1 2 12) 20) 21) 20 0 21) 22) 20 2 22) 23) 20 3 23) 1 3 20) 24) 25) 24 0 25) 26) 24 2 26) 27) 24 3 27) 1 4 24) 28) 29) 28 2 29) 1 5 28) 30) 31) 30 2 31) 1 6 30) 32) 33) 32 1 33) 34) 32 2 34) 35) 32 3 35) 1 7 32) 36) 37) 36 5 37) 38) 36 6 38) 39) 36 7 39) 40) 36 8 40) 41) 36 9 41) 42) 36 10 42) 36 0 4) 36 1 20) 1 8 36) 43) 44) 43 5 44) 45) 43 6 45) 46) 43 7 46) 47) 43 8 47) 48) 43 9 48) 49) 43 10 49) 43 0 4) 43 1 20) 1 9 43) 50) 51) 50 1 51) 52) 50 2 52) 50 0 4) 1 10 50) 53) 53 0 4) 53 1 20) 1 11 53) 54) 54 0 43) 1 12 54) 55) 56) 55 0 56) 1 13 55) 57) 1 14 57) 58) 59) 58 0 59) 57 0 58) 60) 61) 60 0 61) 57 1 60) 62) 63) 62 0 63) 57 2 62), (e_up (e_z (e_z (e_up (e_z (e_z (e_up (e_z (e_z (e_up (e_up (e_up (e_z (e_up (e_z (e_z (e_up (e_up (e_z (e_up (e_up (e_up (e_up (e_up (e_up (e_up (e_z (e_z (e_z (e_z (e_z (e_z (e_z (e_z (e_z (e_z (e_up (e_up (e_up (e_z (e_z (e_z (e_z (e_z (e_z (e_z (e_up (e_up (e_up (e_z (e_up (e_up (e_up (e_z (e_z (e_z (e_up (e_z (e_z (e_up (e_up (e_z (e_z (e_up (e_up (e_z (e_z (e_z (e_up (e_z (e_z (e_z (e_z (e_up (e_z (e_z (e_z (e_z (e_z (e_z (e_z (e_z (e_z (e_up (e_up (e_up (e_z (e_z (e_z (e_z (e_z (e_z (e_z (e_z (e_up (e_up (e_up (e_z (e_up (e_up (e_up (e_up (e_up (e_up (e_z (e_z M 2) 3) 2 1 0) 2 2 0) 2 3 0) 2 4 0) 2 5 (-1)) 2 6 0) 4) 4 0 0) 4 1 0) 4 2 0) 5) 6) 7) 8) 9) 10) 11) 12) 12 0 0) 12 1 0) 12 2 0) 13) 14) 15) 16) 17) 18) 19) 20) 21) 20 1 0) 22) 23) 24) 25) 24 1 0) 26) 27) 28) 28 0 0) 28 1 0) 29) 30) 30 0 0) 30 1 0) 31) 32) 32 0 0) 33) 34) 35) 32 4 0) 32 5 0) 32 6 0) 36) 36 2 0) 36 3 0) 36 4 0) 37) 38) 39) 40) 41) 42) 43) 43 2 0) 43 3 0) 43 4 0) 44) 45) 46) 47) 48) 49) 50) 51) 52) 53) 53 2 0) 53 3 0) 53 4 0) 53 5 0) 53 6 0) 53 7 0) 53 8 0) 54) 54 1 0) 54 2 0) 55) 56) 55 1 0) 57) 1 15 0) 1 16 0) 1 17 0) 58) 59) 58 1 0) 60) 61) 60 1 0) 62) 63) 62 1 0)) o) : e_G X (d + 2) YX10_init 0 [some (.inr (.inr 1)), none] [] (1, gn, R, M) o := by
  have h1 := h_z (show 1 + 1 = 2 from rfl) hR
  have h2 := (k_X7_init_2 (X := X) (d := 0) (gn := gn) (M := (e_z M 2)) h1).2
  have h3 := h_u (a0 := 1) (k := 0) h2 (show 2 ≤ 3 from (Nat.le_of_ble_eq_true rfl))
  have h4 := h_z (show 3 + 1 = 4 from rfl) h3
  have h5 := (k_X8_init_4 (X := X) (d := 0) (gn := gn) (M := (e_z (e_up (e_up (e_up (e_up (e_up (e_up (e_z (e_z M 2) 3) 2 1 0) 2 2 0) 2 3 0) 2 4 0) 2 5 (-1)) 2 6 0) 4)) h4).2
  have h6 := h_u (a0 := 1) (k := 1) h5 (show 4 ≤ 11 from (Nat.le_of_ble_eq_true rfl))
  have h7 := h_z (show 11 + 1 = 12 from rfl) h6
  have h8 := (k_X8_init_12 (X := X) (d := 0) (gn := gn) (M := (e_z (e_z (e_z (e_z (e_z (e_z (e_z (e_z (e_up (e_up (e_up (e_z (e_up (e_up (e_up (e_up (e_up (e_up (e_z (e_z M 2) 3) 2 1 0) 2 2 0) 2 3 0) 2 4 0) 2 5 (-1)) 2 6 0) 4) 4 0 0) 4 1 0) 4 2 0) 5) 6) 7) 8) 9) 10) 11) 12)) h7).2
  have h9 := h_u (a0 := 1) (k := 2) h8 (show 12 ≤ 19 from (Nat.le_of_ble_eq_true rfl))
  have h10 := h_z (show 19 + 1 = 20 from rfl) h9
  have h11 := (k_X2_init_20 (X := X) (d := 0) (gn := gn) (M := (e_z (e_z (e_z (e_z (e_z (e_z (e_z (e_z (e_up (e_up (e_up (e_z (e_z (e_z (e_z (e_z (e_z (e_z (e_z (e_up (e_up (e_up (e_z (e_up (e_up (e_up (e_up (e_up (e_up (e_z (e_z M 2) 3) 2 1 0) 2 2 0) 2 3 0) 2 4 0) 2 5 (-1)) 2 6 0) 4) 4 0 0) 4 1 0) 4 2 0) 5) 6) 7) 8) 9) 10) 11) 12) 12 0 0) 12 1 0) 12 2 0) 13) 14) 15) 16) 17) 18) 19) 20)) h10).2
  have h12 := h_u (a0 := 1) (k := 3) h11 (show 20 ≤ 23 from (Nat.le_of_ble_eq_true rfl))
  have h13 := h_z (show 23 + 1 = 24 from rfl) h12
  have h14 := (k_X2_init_24 (X := X) (d := 0) (gn := gn) (M := (e_z (e_z (e_z (e_up (e_z (e_z (e_z (e_z (e_z (e_z (e_z (e_z (e_z (e_up (e_up (e_up (e_z (e_z (e_z (e_z (e_z (e_z (e_z (e_z (e_up (e_up (e_up (e_z (e_up (e_up (e_up (e_up (e_up (e_up (e_z (e_z M 2) 3) 2 1 0) 2 2 0) 2 3 0) 2 4 0) 2 5 (-1)) 2 6 0) 4) 4 0 0) 4 1 0) 4 2 0) 5) 6) 7) 8) 9) 10) 11) 12) 12 0 0) 12 1 0) 12 2 0) 13) 14) 15) 16) 17) 18) 19) 20) 21) 20 1 0) 22) 23) 24)) h13).2
  have h15 := h_u (a0 := 1) (k := 4) h14 (show 24 ≤ 27 from (Nat.le_of_ble_eq_true rfl))
  have h16 := h_z (show 27 + 1 = 28 from rfl) h15
  have h17 := (k_X0_init_28 (X := X) (d := 0) (gn := gn) (M := (e_z (e_z (e_z (e_up (e_z (e_z (e_z (e_z (e_up (e_z (e_z (e_z (e_z (e_z (e_z (e_z (e_z (e_z (e_up (e_up (e_up (e_z (e_z (e_z (e_z (e_z (e_z (e_z (e_z (e_up (e_up (e_up (e_z (e_up (e_up (e_up (e_up (e_up (e_up (e_z (e_z M 2) 3) 2 1 0) 2 2 0) 2 3 0) 2 4 0) 2 5 (-1)) 2 6 0) 4) 4 0 0) 4 1 0) 4 2 0) 5) 6) 7) 8) 9) 10) 11) 12) 12 0 0) 12 1 0) 12 2 0) 13) 14) 15) 16) 17) 18) 19) 20) 21) 20 1 0) 22) 23) 24) 25) 24 1 0) 26) 27) 28)) h16).2
  have h18 := h_u (a0 := 1) (k := 5) h17 (show 28 ≤ 29 from (Nat.le_of_ble_eq_true rfl))
  have h19 := h_z (show 29 + 1 = 30 from rfl) h18
  have h20 := (k_X0_init_30 (X := X) (d := 0) (gn := gn) (M := (e_z (e_z (e_up (e_up (e_z (e_z (e_z (e_up (e_z (e_z (e_z (e_z (e_up (e_z (e_z (e_z (e_z (e_z (e_z (e_z (e_z (e_z (e_up (e_up (e_up (e_z (e_z (e_z (e_z (e_z (e_z (e_z (e_z (e_up (e_up (e_up (e_z (e_up (e_up (e_up (e_up (e_up (e_up (e_z (e_z M 2) 3) 2 1 0) 2 2 0) 2 3 0) 2 4 0) 2 5 (-1)) 2 6 0) 4) 4 0 0) 4 1 0) 4 2 0) 5) 6) 7) 8) 9) 10) 11) 12) 12 0 0) 12 1 0) 12 2 0) 13) 14) 15) 16) 17) 18) 19) 20) 21) 20 1 0) 22) 23) 24) 25) 24 1 0) 26) 27) 28) 28 0 0) 28 1 0) 29) 30)) h19).2
  have h21 := h_u (a0 := 1) (k := 6) h20 (show 30 ≤ 31 from (Nat.le_of_ble_eq_true rfl))
  have h22 := h_z (show 31 + 1 = 32 from rfl) h21
  have h23 := (k_X4_init_32 (X := X) (d := 0) (gn := gn) (M := (e_z (e_z (e_up (e_up (e_z (e_z (e_up (e_up (e_z (e_z (e_z (e_up (e_z (e_z (e_z (e_z (e_up (e_z (e_z (e_z (e_z (e_z (e_z (e_z (e_z (e_z (e_up (e_up (e_up (e_z (e_z (e_z (e_z (e_z (e_z (e_z (e_z (e_up (e_up (e_up (e_z (e_up (e_up (e_up (e_up (e_up (e_up (e_z (e_z M 2) 3) 2 1 0) 2 2 0) 2 3 0) 2 4 0) 2 5 (-1)) 2 6 0) 4) 4 0 0) 4 1 0) 4 2 0) 5) 6) 7) 8) 9) 10) 11) 12) 12 0 0) 12 1 0) 12 2 0) 13) 14) 15) 16) 17) 18) 19) 20) 21) 20 1 0) 22) 23) 24) 25) 24 1 0) 26) 27) 28) 28 0 0) 28 1 0) 29) 30) 30 0 0) 30 1 0) 31) 32)) h22).2
  have h24 := h_u (a0 := 1) (k := 7) h23 (show 32 ≤ 35 from (Nat.le_of_ble_eq_true rfl))
  have h25 := h_z (show 35 + 1 = 36 from rfl) h24
  have h26 := (k_X3_init_36 (X := X) (d := 0) (gn := gn) (M := (e_z (e_up (e_up (e_up (e_z (e_z (e_z (e_up (e_z (e_z (e_up (e_up (e_z (e_z (e_up (e_up (e_z (e_z (e_z (e_up (e_z (e_z (e_z (e_z (e_up (e_z (e_z (e_z (e_z (e_z (e_z (e_z (e_z (e_z (e_up (e_up (e_up (e_z (e_z (e_z (e_z (e_z (e_z (e_z (e_z (e_up (e_up (e_up (e_z (e_up (e_up (e_up (e_up (e_up (e_up (e_z (e_z M 2) 3) 2 1 0) 2 2 0) 2 3 0) 2 4 0) 2 5 (-1)) 2 6 0) 4) 4 0 0) 4 1 0) 4 2 0) 5) 6) 7) 8) 9) 10) 11) 12) 12 0 0) 12 1 0) 12 2 0) 13) 14) 15) 16) 17) 18) 19) 20) 21) 20 1 0) 22) 23) 24) 25) 24 1 0) 26) 27) 28) 28 0 0) 28 1 0) 29) 30) 30 0 0) 30 1 0) 31) 32) 32 0 0) 33) 34) 35) 32 4 0) 32 5 0) 32 6 0) 36)) h25).2
  have h27 := h_u (a0 := 1) (k := 8) h26 (show 36 ≤ 42 from (Nat.le_of_ble_eq_true rfl))
  have h28 := h_z (show 42 + 1 = 43 from rfl) h27
  have h29 := (k_X3_init_43 (X := X) (d := 0) (gn := gn) (M := (e_z (e_z (e_z (e_z (e_z (e_z (e_z (e_up (e_up (e_up (e_z (e_up (e_up (e_up (e_z (e_z (e_z (e_up (e_z (e_z (e_up (e_up (e_z (e_z (e_up (e_up (e_z (e_z (e_z (e_up (e_z (e_z (e_z (e_z (e_up (e_z (e_z (e_z (e_z (e_z (e_z (e_z (e_z (e_z (e_up (e_up (e_up (e_z (e_z (e_z (e_z (e_z (e_z (e_z (e_z (e_up (e_up (e_up (e_z (e_up (e_up (e_up (e_up (e_up (e_up (e_z (e_z M 2) 3) 2 1 0) 2 2 0) 2 3 0) 2 4 0) 2 5 (-1)) 2 6 0) 4) 4 0 0) 4 1 0) 4 2 0) 5) 6) 7) 8) 9) 10) 11) 12) 12 0 0) 12 1 0) 12 2 0) 13) 14) 15) 16) 17) 18) 19) 20) 21) 20 1 0) 22) 23) 24) 25) 24 1 0) 26) 27) 28) 28 0 0) 28 1 0) 29) 30) 30 0 0) 30 1 0) 31) 32) 32 0 0) 33) 34) 35) 32 4 0) 32 5 0) 32 6 0) 36) 36 2 0) 36 3 0) 36 4 0) 37) 38) 39) 40) 41) 42) 43)) h28).2
  have h30 := h_u (a0 := 1) (k := 9) h29 (show 43 ≤ 49 from (Nat.le_of_ble_eq_true rfl))
  have h31 := h_z (show 49 + 1 = 50 from rfl) h30
  have h32 := (k_X1_init_50 (X := X) (d := 0) (gn := gn) (M := (e_z (e_z (e_z (e_z (e_z (e_z (e_z (e_up (e_up (e_up (e_z (e_z (e_z (e_z (e_z (e_z (e_z (e_up (e_up (e_up (e_z (e_up (e_up (e_up (e_z (e_z (e_z (e_up (e_z (e_z (e_up (e_up (e_z (e_z (e_up (e_up (e_z (e_z (e_z (e_up (e_z (e_z (e_z (e_z (e_up (e_z (e_z (e_z (e_z (e_z (e_z (e_z (e_z (e_z (e_up (e_up (e_up (e_z (e_z (e_z (e_z (e_z (e_z (e_z (e_z (e_up (e_up (e_up (e_z (e_up (e_up (e_up (e_up (e_up (e_up (e_z (e_z M 2) 3) 2 1 0) 2 2 0) 2 3 0) 2 4 0) 2 5 (-1)) 2 6 0) 4) 4 0 0) 4 1 0) 4 2 0) 5) 6) 7) 8) 9) 10) 11) 12) 12 0 0) 12 1 0) 12 2 0) 13) 14) 15) 16) 17) 18) 19) 20) 21) 20 1 0) 22) 23) 24) 25) 24 1 0) 26) 27) 28) 28 0 0) 28 1 0) 29) 30) 30 0 0) 30 1 0) 31) 32) 32 0 0) 33) 34) 35) 32 4 0) 32 5 0) 32 6 0) 36) 36 2 0) 36 3 0) 36 4 0) 37) 38) 39) 40) 41) 42) 43) 43 2 0) 43 3 0) 43 4 0) 44) 45) 46) 47) 48) 49) 50)) h31).2
  have h33 := h_u (a0 := 1) (k := 10) h32 (show 50 ≤ 52 from (Nat.le_of_ble_eq_true rfl))
  have h34 := h_z (show 52 + 1 = 53 from rfl) h33
  have h35 := (k_X6_init_53 (X := X) (d := 0) (gn := gn) (M := (e_z (e_z (e_z (e_z (e_z (e_z (e_z (e_z (e_z (e_z (e_up (e_up (e_up (e_z (e_z (e_z (e_z (e_z (e_z (e_z (e_up (e_up (e_up (e_z (e_up (e_up (e_up (e_z (e_z (e_z (e_up (e_z (e_z (e_up (e_up (e_z (e_z (e_up (e_up (e_z (e_z (e_z (e_up (e_z (e_z (e_z (e_z (e_up (e_z (e_z (e_z (e_z (e_z (e_z (e_z (e_z (e_z (e_up (e_up (e_up (e_z (e_z (e_z (e_z (e_z (e_z (e_z (e_z (e_up (e_up (e_up (e_z (e_up (e_up (e_up (e_up (e_up (e_up (e_z (e_z M 2) 3) 2 1 0) 2 2 0) 2 3 0) 2 4 0) 2 5 (-1)) 2 6 0) 4) 4 0 0) 4 1 0) 4 2 0) 5) 6) 7) 8) 9) 10) 11) 12) 12 0 0) 12 1 0) 12 2 0) 13) 14) 15) 16) 17) 18) 19) 20) 21) 20 1 0) 22) 23) 24) 25) 24 1 0) 26) 27) 28) 28 0 0) 28 1 0) 29) 30) 30 0 0) 30 1 0) 31) 32) 32 0 0) 33) 34) 35) 32 4 0) 32 5 0) 32 6 0) 36) 36 2 0) 36 3 0) 36 4 0) 37) 38) 39) 40) 41) 42) 43) 43 2 0) 43 3 0) 43 4 0) 44) 45) 46) 47) 48) 49) 50) 51) 52) 53)) h34).2
  have h36 := h_u (a0 := 1) (k := 11) h35 (show 53 ≤ 53 from (Nat.le_of_ble_eq_true rfl))
  have h37 := h_z (show 53 + 1 = 54 from rfl) h36
  have h38 := (k_X9_init_54 (X := X) (d := 0) (gn := gn) (M := (e_z (e_up (e_up (e_up (e_up (e_up (e_up (e_up (e_z (e_z (e_z (e_z (e_z (e_z (e_z (e_z (e_z (e_z (e_up (e_up (e_up (e_z (e_z (e_z (e_z (e_z (e_z (e_z (e_up (e_up (e_up (e_z (e_up (e_up (e_up (e_z (e_z (e_z (e_up (e_z (e_z (e_up (e_up (e_z (e_z (e_up (e_up (e_z (e_z (e_z (e_up (e_z (e_z (e_z (e_z (e_up (e_z (e_z (e_z (e_z (e_z (e_z (e_z (e_z (e_z (e_up (e_up (e_up (e_z (e_z (e_z (e_z (e_z (e_z (e_z (e_z (e_up (e_up (e_up (e_z (e_up (e_up (e_up (e_up (e_up (e_up (e_z (e_z M 2) 3) 2 1 0) 2 2 0) 2 3 0) 2 4 0) 2 5 (-1)) 2 6 0) 4) 4 0 0) 4 1 0) 4 2 0) 5) 6) 7) 8) 9) 10) 11) 12) 12 0 0) 12 1 0) 12 2 0) 13) 14) 15) 16) 17) 18) 19) 20) 21) 20 1 0) 22) 23) 24) 25) 24 1 0) 26) 27) 28) 28 0 0) 28 1 0) 29) 30) 30 0 0) 30 1 0) 31) 32) 32 0 0) 33) 34) 35) 32 4 0) 32 5 0) 32 6 0) 36) 36 2 0) 36 3 0) 36 4 0) 37) 38) 39) 40) 41) 42) 43) 43 2 0) 43 3 0) 43 4 0) 44) 45) 46) 47) 48) 49) 50) 51) 52) 53) 53 2 0) 53 3 0) 53 4 0) 53 5 0) 53 6 0) 53 7 0) 53 8 0) 54)) h37).2
  have h39 := h_u (a0 := 1) (k := 12) h38 (show 54 ≤ 54 from (Nat.le_of_ble_eq_true rfl))
  have h40 := h_z (show 54 + 1 = 55 from rfl) h39
  have h41 := (k_X5_init_55 (X := X) (d := 0) (gn := gn) (M := (e_z (e_up (e_up (e_z (e_up (e_up (e_up (e_up (e_up (e_up (e_up (e_z (e_z (e_z (e_z (e_z (e_z (e_z (e_z (e_z (e_z (e_up (e_up (e_up (e_z (e_z (e_z (e_z (e_z (e_z (e_z (e_up (e_up (e_up (e_z (e_up (e_up (e_up (e_z (e_z (e_z (e_up (e_z (e_z (e_up (e_up (e_z (e_z (e_up (e_up (e_z (e_z (e_z (e_up (e_z (e_z (e_z (e_z (e_up (e_z (e_z (e_z (e_z (e_z (e_z (e_z (e_z (e_z (e_up (e_up (e_up (e_z (e_z (e_z (e_z (e_z (e_z (e_z (e_z (e_up (e_up (e_up (e_z (e_up (e_up (e_up (e_up (e_up (e_up (e_z (e_z M 2) 3) 2 1 0) 2 2 0) 2 3 0) 2 4 0) 2 5 (-1)) 2 6 0) 4) 4 0 0) 4 1 0) 4 2 0) 5) 6) 7) 8) 9) 10) 11) 12) 12 0 0) 12 1 0) 12 2 0) 13) 14) 15) 16) 17) 18) 19) 20) 21) 20 1 0) 22) 23) 24) 25) 24 1 0) 26) 27) 28) 28 0 0) 28 1 0) 29) 30) 30 0 0) 30 1 0) 31) 32) 32 0 0) 33) 34) 35) 32 4 0) 32 5 0) 32 6 0) 36) 36 2 0) 36 3 0) 36 4 0) 37) 38) 39) 40) 41) 42) 43) 43 2 0) 43 3 0) 43 4 0) 44) 45) 46) 47) 48) 49) 50) 51) 52) 53) 53 2 0) 53 3 0) 53 4 0) 53 5 0) 53 6 0) 53 7 0) 53 8 0) 54) 54 1 0) 54 2 0) 55)) h40).2
  have h42 := h_u (a0 := 1) (k := 13) h41 (show 55 ≤ 56 from (Nat.le_of_ble_eq_true rfl))
  have h43 := h_z (show 56 + 1 = 57 from rfl) h42
  have h44 := h_u (a0 := 1) (k := 14) h43 (show 57 ≤ 57 from (Nat.le_of_ble_eq_true rfl))
  have h45 := h_z (show 57 + 1 = 58 from rfl) h44
  have h46 := (k_X5_init_58 (X := X) (d := 0) (gn := gn) (M := (e_z (e_up (e_up (e_up (e_z (e_up (e_z (e_z (e_up (e_up (e_z (e_up (e_up (e_up (e_up (e_up (e_up (e_up (e_z (e_z (e_z (e_z (e_z (e_z (e_z (e_z (e_z (e_z (e_up (e_up (e_up (e_z (e_z (e_z (e_z (e_z (e_z (e_z (e_up (e_up (e_up (e_z (e_up (e_up (e_up (e_z (e_z (e_z (e_up (e_z (e_z (e_up (e_up (e_z (e_z (e_up (e_up (e_z (e_z (e_z (e_up (e_z (e_z (e_z (e_z (e_up (e_z (e_z (e_z (e_z (e_z (e_z (e_z (e_z (e_z (e_up (e_up (e_up (e_z (e_z (e_z (e_z (e_z (e_z (e_z (e_z (e_up (e_up (e_up (e_z (e_up (e_up (e_up (e_up (e_up (e_up (e_z (e_z M 2) 3) 2 1 0) 2 2 0) 2 3 0) 2 4 0) 2 5 (-1)) 2 6 0) 4) 4 0 0) 4 1 0) 4 2 0) 5) 6) 7) 8) 9) 10) 11) 12) 12 0 0) 12 1 0) 12 2 0) 13) 14) 15) 16) 17) 18) 19) 20) 21) 20 1 0) 22) 23) 24) 25) 24 1 0) 26) 27) 28) 28 0 0) 28 1 0) 29) 30) 30 0 0) 30 1 0) 31) 32) 32 0 0) 33) 34) 35) 32 4 0) 32 5 0) 32 6 0) 36) 36 2 0) 36 3 0) 36 4 0) 37) 38) 39) 40) 41) 42) 43) 43 2 0) 43 3 0) 43 4 0) 44) 45) 46) 47) 48) 49) 50) 51) 52) 53) 53 2 0) 53 3 0) 53 4 0) 53 5 0) 53 6 0) 53 7 0) 53 8 0) 54) 54 1 0) 54 2 0) 55) 56) 55 1 0) 57) 1 15 0) 1 16 0) 1 17 0) 58)) h45).2
  have h47 := h_u (a0 := 57) (k := 0) h46 (show 58 ≤ 59 from (Nat.le_of_ble_eq_true rfl))
  have h48 := h_z (show 59 + 1 = 60 from rfl) h47
  have h49 := (k_X5_init_60 (X := X) (d := 0) (gn := gn) (M := (e_z (e_up (e_z (e_z (e_up (e_up (e_up (e_z (e_up (e_z (e_z (e_up (e_up (e_z (e_up (e_up (e_up (e_up (e_up (e_up (e_up (e_z (e_z (e_z (e_z (e_z (e_z (e_z (e_z (e_z (e_z (e_up (e_up (e_up (e_z (e_z (e_z (e_z (e_z (e_z (e_z (e_up (e_up (e_up (e_z (e_up (e_up (e_up (e_z (e_z (e_z (e_up (e_z (e_z (e_up (e_up (e_z (e_z (e_up (e_up (e_z (e_z (e_z (e_up (e_z (e_z (e_z (e_z (e_up (e_z (e_z (e_z (e_z (e_z (e_z (e_z (e_z (e_z (e_up (e_up (e_up (e_z (e_z (e_z (e_z (e_z (e_z (e_z (e_z (e_up (e_up (e_up (e_z (e_up (e_up (e_up (e_up (e_up (e_up (e_z (e_z M 2) 3) 2 1 0) 2 2 0) 2 3 0) 2 4 0) 2 5 (-1)) 2 6 0) 4) 4 0 0) 4 1 0) 4 2 0) 5) 6) 7) 8) 9) 10) 11) 12) 12 0 0) 12 1 0) 12 2 0) 13) 14) 15) 16) 17) 18) 19) 20) 21) 20 1 0) 22) 23) 24) 25) 24 1 0) 26) 27) 28) 28 0 0) 28 1 0) 29) 30) 30 0 0) 30 1 0) 31) 32) 32 0 0) 33) 34) 35) 32 4 0) 32 5 0) 32 6 0) 36) 36 2 0) 36 3 0) 36 4 0) 37) 38) 39) 40) 41) 42) 43) 43 2 0) 43 3 0) 43 4 0) 44) 45) 46) 47) 48) 49) 50) 51) 52) 53) 53 2 0) 53 3 0) 53 4 0) 53 5 0) 53 6 0) 53 7 0) 53 8 0) 54) 54 1 0) 54 2 0) 55) 56) 55 1 0) 57) 1 15 0) 1 16 0) 1 17 0) 58) 59) 58 1 0) 60)) h48).2
  have h50 := h_u (a0 := 57) (k := 1) h49 (show 60 ≤ 61 from (Nat.le_of_ble_eq_true rfl))
  have h51 := h_z (show 61 + 1 = 62 from rfl) h50
  have h52 := (k_X5_init_62 (X := X) (d := 0) (gn := gn) (M := (e_z (e_up (e_z (e_z (e_up (e_z (e_z (e_up (e_up (e_up (e_z (e_up (e_z (e_z (e_up (e_up (e_z (e_up (e_up (e_up (e_up (e_up (e_up (e_up (e_z (e_z (e_z (e_z (e_z (e_z (e_z (e_z (e_z (e_z (e_up (e_up (e_up (e_z (e_z (e_z (e_z (e_z (e_z (e_z (e_up (e_up (e_up (e_z (e_up (e_up (e_up (e_z (e_z (e_z (e_up (e_z (e_z (e_up (e_up (e_z (e_z (e_up (e_up (e_z (e_z (e_z (e_up (e_z (e_z (e_z (e_z (e_up (e_z (e_z (e_z (e_z (e_z (e_z (e_z (e_z (e_z (e_up (e_up (e_up (e_z (e_z (e_z (e_z (e_z (e_z (e_z (e_z (e_up (e_up (e_up (e_z (e_up (e_up (e_up (e_up (e_up (e_up (e_z (e_z M 2) 3) 2 1 0) 2 2 0) 2 3 0) 2 4 0) 2 5 (-1)) 2 6 0) 4) 4 0 0) 4 1 0) 4 2 0) 5) 6) 7) 8) 9) 10) 11) 12) 12 0 0) 12 1 0) 12 2 0) 13) 14) 15) 16) 17) 18) 19) 20) 21) 20 1 0) 22) 23) 24) 25) 24 1 0) 26) 27) 28) 28 0 0) 28 1 0) 29) 30) 30 0 0) 30 1 0) 31) 32) 32 0 0) 33) 34) 35) 32 4 0) 32 5 0) 32 6 0) 36) 36 2 0) 36 3 0) 36 4 0) 37) 38) 39) 40) 41) 42) 43) 43 2 0) 43 3 0) 43 4 0) 44) 45) 46) 47) 48) 49) 50) 51) 52) 53) 53 2 0) 53 3 0) 53 4 0) 53 5 0) 53 6 0) 53 7 0) 53 8 0) 54) 54 1 0) 54 2 0) 55) 56) 55 1 0) 57) 1 15 0) 1 16 0) 1 17 0) 58) 59) 58 1 0) 60) 61) 60 1 0) 62)) h51).2
  have h53 := h_u (a0 := 57) (k := 2) h52 (show 62 ≤ 63 from (Nat.le_of_ble_eq_true rfl))
  refine e_r_aload_n (pc' := 1) (by decide) dX10_init_0 rfl rfl rfl ?_
  refine e_r_obj (pc' := 4) ob_RX10_1 ob_i ob_c (by decide) rfl dX10_init_1 rfl ?_
  refine e_r_aload_n (pc' := 5) (by decide) dX10_init_4 rfl rfl rfl ?_
  refine e_q_new (c1 := 2) (pc' := 8) cl_7 cf_7 rfl hR (by decide) kl_RX10_7 ins_7 ini_7 dX10_init_5 rfl ⟨Nat.le_trans (Nat.le_of_ble_eq_true rfl) hmo.1, hmo.2⟩ rfl ?_
  refine e_r_dup (pc' := 9) rfl dX10_init_8 rfl ?_
  refine e_r_callIN (a := 2) (av := []) (st := [.inr (.inr 2), .inr (.inr 1)]) (pc' := 12) mcYX7_init nl_RX10_9 (by decide) (by simp [e_cat]) rfl rfl rfl dX10_init_9 rfl (k_X7_init_2 h1).1 ⟨(Nat.le_of_ble_eq_true rfl), Nat.le_refl _⟩ ⟨Nat.le_trans (Nat.le_of_ble_eq_true rfl) hmo.1, hmo.2⟩ ?_
  refine e_r_putr (fty := (.object "BoughtMondays$Text")) (k := 0) (q := 2) (pc' := 15) cl_10 rfl (Nat.le_of_ble_eq_true rfl) rfl rfl fl_RX10_10 rfl rfl rfl (by decide +kernel) (fun _ => rfl) (fun _ => rfl) (by decide) dX10_init_12 rfl ?_
  refine e_r_aload_n (pc' := 16) (by decide) dX10_init_15 rfl rfl rfl ?_
  refine e_q_new (c1 := 4) (pc' := 19) cl_8 cf_8 rfl h3 (by decide) kl_RX10_16 ins_8 ini_8 dX10_init_16 rfl ⟨Nat.le_trans (Nat.le_of_ble_eq_true rfl) hmo.1, hmo.2⟩ rfl ?_
  refine e_r_dup (pc' := 20) rfl dX10_init_19 rfl ?_
  refine e_r_callIN (a := 4) (av := []) (st := [.inr (.inr 4), .inr (.inr 1)]) (pc' := 23) mcYX8_init nl_RX10_18 (by decide) (by simp [e_cat]) rfl rfl rfl dX10_init_20 rfl (k_X8_init_4 h4).1 ⟨(Nat.le_of_ble_eq_true rfl), Nat.le_refl _⟩ ⟨Nat.le_trans (Nat.le_of_ble_eq_true rfl) hmo.1, hmo.2⟩ ?_
  refine e_r_putr (fty := (.object "BoughtMondays$Town")) (k := 1) (q := 4) (pc' := 26) cl_10 rfl (Nat.le_of_ble_eq_true rfl) rfl rfl fl_RX10_19 rfl rfl rfl (by decide +kernel) (fun _ => rfl) (fun _ => rfl) (by decide) dX10_init_23 rfl ?_
  refine e_r_aload_n (pc' := 27) (by decide) dX10_init_26 rfl rfl rfl ?_
  refine e_q_new (c1 := 12) (pc' := 30) cl_8 cf_8 rfl h6 (by decide) kl_RX10_16 ins_8 ini_8 dX10_init_27 rfl ⟨Nat.le_trans (Nat.le_of_ble_eq_true rfl) hmo.1, hmo.2⟩ rfl ?_
  refine e_r_dup (pc' := 31) rfl dX10_init_30 rfl ?_
  refine e_r_callIN (a := 12) (av := []) (st := [.inr (.inr 12), .inr (.inr 1)]) (pc' := 34) mcYX8_init nl_RX10_18 (by decide) (by simp [e_cat]) rfl rfl rfl dX10_init_31 rfl (k_X8_init_12 h7).1 ⟨(Nat.le_of_ble_eq_true rfl), Nat.le_refl _⟩ ⟨Nat.le_trans (Nat.le_of_ble_eq_true rfl) hmo.1, hmo.2⟩ ?_
  refine e_r_putr (fty := (.object "BoughtMondays$Town")) (k := 2) (q := 12) (pc' := 37) cl_10 rfl (Nat.le_of_ble_eq_true rfl) rfl rfl fl_RX10_23 rfl rfl rfl (by decide +kernel) (fun _ => rfl) (fun _ => rfl) (by decide) dX10_init_34 rfl ?_
  refine e_r_aload_n (pc' := 38) (by decide) dX10_init_37 rfl rfl rfl ?_
  refine e_q_new (c1 := 20) (pc' := 41) cl_2 cf_2 rfl h9 (by decide) kl_RX10_26 ins_2 ini_2 dX10_init_38 rfl ⟨Nat.le_trans (Nat.le_of_ble_eq_true rfl) hmo.1, hmo.2⟩ rfl ?_
  refine e_r_dup (pc' := 42) rfl dX10_init_41 rfl ?_
  refine e_r_callIN (a := 20) (av := []) (st := [.inr (.inr 20), .inr (.inr 1)]) (pc' := 45) mcYX2_init nl_RX10_28 (by decide) (by simp [e_cat]) rfl rfl rfl dX10_init_42 rfl (k_X2_init_20 h10).1 ⟨(Nat.le_of_ble_eq_true rfl), Nat.le_refl _⟩ ⟨Nat.le_trans (Nat.le_of_ble_eq_true rfl) hmo.1, hmo.2⟩ ?_
  refine e_r_putr (fty := (.object "BoughtMondays$Law")) (k := 3) (q := 20) (pc' := 48) cl_10 rfl (Nat.le_of_ble_eq_true rfl) rfl rfl fl_RX10_29 rfl rfl rfl (by decide +kernel) (fun _ => rfl) (fun _ => rfl) (by decide) dX10_init_45 rfl ?_
  refine e_r_aload_n (pc' := 49) (by decide) dX10_init_48 rfl rfl rfl ?_
  refine e_q_new (c1 := 24) (pc' := 52) cl_2 cf_2 rfl h12 (by decide) kl_RX10_26 ins_2 ini_2 dX10_init_49 rfl ⟨Nat.le_trans (Nat.le_of_ble_eq_true rfl) hmo.1, hmo.2⟩ rfl ?_
  refine e_r_dup (pc' := 53) rfl dX10_init_52 rfl ?_
  refine e_r_callIN (a := 24) (av := []) (st := [.inr (.inr 24), .inr (.inr 1)]) (pc' := 56) mcYX2_init nl_RX10_28 (by decide) (by simp [e_cat]) rfl rfl rfl dX10_init_53 rfl (k_X2_init_24 h13).1 ⟨(Nat.le_of_ble_eq_true rfl), Nat.le_refl _⟩ ⟨Nat.le_trans (Nat.le_of_ble_eq_true rfl) hmo.1, hmo.2⟩ ?_
  refine e_r_putr (fty := (.object "BoughtMondays$Law")) (k := 4) (q := 24) (pc' := 59) cl_10 rfl (Nat.le_of_ble_eq_true rfl) rfl rfl fl_RX10_33 rfl rfl rfl (by decide +kernel) (fun _ => rfl) (fun _ => rfl) (by decide) dX10_init_56 rfl ?_
  refine e_r_aload_n (pc' := 60) (by decide) dX10_init_59 rfl rfl rfl ?_
  refine e_q_new (c1 := 28) (pc' := 63) cl_0 cf_0 rfl h15 (by decide) kl_RX10_36 ins_0 ini_0 dX10_init_60 rfl ⟨Nat.le_trans (Nat.le_of_ble_eq_true rfl) hmo.1, hmo.2⟩ rfl ?_
  refine e_r_dup (pc' := 64) rfl dX10_init_63 rfl ?_
  refine e_r_callIN (a := 28) (av := []) (st := [.inr (.inr 28), .inr (.inr 1)]) (pc' := 67) mcYX0_init nl_RX10_38 (by decide) (by simp [e_cat]) rfl rfl rfl dX10_init_64 rfl (k_X0_init_28 h16).1 ⟨(Nat.le_of_ble_eq_true rfl), Nat.le_refl _⟩ ⟨Nat.le_trans (Nat.le_of_ble_eq_true rfl) hmo.1, hmo.2⟩ ?_
  refine e_r_putr (fty := (.object "BoughtMondays$Book")) (k := 5) (q := 28) (pc' := 70) cl_10 rfl (Nat.le_of_ble_eq_true rfl) rfl rfl fl_RX10_39 rfl rfl rfl (by decide +kernel) (fun _ => rfl) (fun _ => rfl) (by decide) dX10_init_67 rfl ?_
  refine e_r_aload_n (pc' := 71) (by decide) dX10_init_70 rfl rfl rfl ?_
  refine e_q_new (c1 := 30) (pc' := 74) cl_0 cf_0 rfl h18 (by decide) kl_RX10_36 ins_0 ini_0 dX10_init_71 rfl ⟨Nat.le_trans (Nat.le_of_ble_eq_true rfl) hmo.1, hmo.2⟩ rfl ?_
  refine e_r_dup (pc' := 75) rfl dX10_init_74 rfl ?_
  refine e_r_callIN (a := 30) (av := []) (st := [.inr (.inr 30), .inr (.inr 1)]) (pc' := 78) mcYX0_init nl_RX10_38 (by decide) (by simp [e_cat]) rfl rfl rfl dX10_init_75 rfl (k_X0_init_30 h19).1 ⟨(Nat.le_of_ble_eq_true rfl), Nat.le_refl _⟩ ⟨Nat.le_trans (Nat.le_of_ble_eq_true rfl) hmo.1, hmo.2⟩ ?_
  refine e_r_putr (fty := (.object "BoughtMondays$Book")) (k := 6) (q := 30) (pc' := 81) cl_10 rfl (Nat.le_of_ble_eq_true rfl) rfl rfl fl_RX10_43 rfl rfl rfl (by decide +kernel) (fun _ => rfl) (fun _ => rfl) (by decide) dX10_init_78 rfl ?_
  refine e_r_aload_n (pc' := 82) (by decide) dX10_init_81 rfl rfl rfl ?_
  refine e_q_new (c1 := 32) (pc' := 85) cl_4 cf_4 rfl h21 (by decide) kl_RX10_46 ins_4 ini_4 dX10_init_82 rfl ⟨Nat.le_trans (Nat.le_of_ble_eq_true rfl) hmo.1, hmo.2⟩ rfl ?_
  refine e_r_dup (pc' := 86) rfl dX10_init_85 rfl ?_
  refine e_r_callIN (a := 32) (av := []) (st := [.inr (.inr 32), .inr (.inr 1)]) (pc' := 89) mcYX4_init nl_RX10_48 (by decide) (by simp [e_cat]) rfl rfl rfl dX10_init_86 rfl (k_X4_init_32 h22).1 ⟨(Nat.le_of_ble_eq_true rfl), Nat.le_refl _⟩ ⟨Nat.le_trans (Nat.le_of_ble_eq_true rfl) hmo.1, hmo.2⟩ ?_
  refine e_r_putr (fty := (.object "BoughtMondays$Plan")) (k := 7) (q := 32) (pc' := 92) cl_10 rfl (Nat.le_of_ble_eq_true rfl) rfl rfl fl_RX10_49 rfl rfl rfl (by decide +kernel) (fun _ => rfl) (fun _ => rfl) (by decide) dX10_init_89 rfl ?_
  refine e_r_aload_n (pc' := 93) (by decide) dX10_init_92 rfl rfl rfl ?_
  refine e_q_new (c1 := 36) (pc' := 96) cl_3 cf_3 rfl h24 (by decide) kl_RX10_53 ins_3 ini_3 dX10_init_93 rfl ⟨Nat.le_trans (Nat.le_of_ble_eq_true rfl) hmo.1, hmo.2⟩ rfl ?_
  refine e_r_dup (pc' := 97) rfl dX10_init_96 rfl ?_
  refine e_r_aload_n (pc' := 98) (by decide) dX10_init_97 rfl rfl rfl ?_
  refine e_r_getr (k := 1) (q := 4) (pc' := 101) cl_10 rfl (Nat.le_of_ble_eq_true rfl) rfl rfl fl_RX10_19 rfl (Nat.le_of_ble_eq_true rfl) dX10_init_98 rfl ?_
  refine e_r_aload_n (pc' := 102) (by decide) dX10_init_101 rfl rfl rfl ?_
  refine e_r_getr (k := 3) (q := 20) (pc' := 105) cl_10 rfl (Nat.le_of_ble_eq_true rfl) rfl rfl fl_RX10_29 rfl (Nat.le_of_ble_eq_true rfl) dX10_init_102 rfl ?_
  refine e_r_callI (a := 36) (av := [.inr (.inr 4), .inr (.inr 20)]) (st := [.inr (.inr 36), .inr (.inr 1)]) (pc' := 108) mcYX3_init ml_RX10_55 (by decide) (by simp [e_cat]) rfl rfl rfl dX10_init_105 rfl (k_X3_init_36 h25).1 ⟨(Nat.le_of_ble_eq_true rfl), Nat.le_refl _⟩ ⟨Nat.le_trans (Nat.le_of_ble_eq_true rfl) hmo.1, hmo.2⟩ ?_
  refine e_r_putr (fty := (.object "BoughtMondays$Life")) (k := 8) (q := 36) (pc' := 111) cl_10 rfl (Nat.le_of_ble_eq_true rfl) rfl rfl fl_RX10_58 rfl rfl rfl (by decide +kernel) (fun _ => rfl) (fun _ => rfl) (by decide) dX10_init_108 rfl ?_
  refine e_r_aload_n (pc' := 112) (by decide) dX10_init_111 rfl rfl rfl ?_
  refine e_q_new (c1 := 43) (pc' := 115) cl_3 cf_3 rfl h27 (by decide) kl_RX10_53 ins_3 ini_3 dX10_init_112 rfl ⟨Nat.le_trans (Nat.le_of_ble_eq_true rfl) hmo.1, hmo.2⟩ rfl ?_
  refine e_r_dup (pc' := 116) rfl dX10_init_115 rfl ?_
  refine e_r_aload_n (pc' := 117) (by decide) dX10_init_116 rfl rfl rfl ?_
  refine e_r_getr (k := 1) (q := 4) (pc' := 120) cl_10 rfl (Nat.le_of_ble_eq_true rfl) rfl rfl fl_RX10_19 rfl (Nat.le_of_ble_eq_true rfl) dX10_init_117 rfl ?_
  refine e_r_aload_n (pc' := 121) (by decide) dX10_init_120 rfl rfl rfl ?_
  refine e_r_getr (k := 3) (q := 20) (pc' := 124) cl_10 rfl (Nat.le_of_ble_eq_true rfl) rfl rfl fl_RX10_29 rfl (Nat.le_of_ble_eq_true rfl) dX10_init_121 rfl ?_
  refine e_r_callI (a := 43) (av := [.inr (.inr 4), .inr (.inr 20)]) (st := [.inr (.inr 43), .inr (.inr 1)]) (pc' := 127) mcYX3_init ml_RX10_55 (by decide) (by simp [e_cat]) rfl rfl rfl dX10_init_124 rfl (k_X3_init_43 h28).1 ⟨(Nat.le_of_ble_eq_true rfl), Nat.le_refl _⟩ ⟨Nat.le_trans (Nat.le_of_ble_eq_true rfl) hmo.1, hmo.2⟩ ?_
  refine e_r_putr (fty := (.object "BoughtMondays$Life")) (k := 9) (q := 43) (pc' := 130) cl_10 rfl (Nat.le_of_ble_eq_true rfl) rfl rfl fl_RX10_62 rfl rfl rfl (by decide +kernel) (fun _ => rfl) (fun _ => rfl) (by decide) dX10_init_127 rfl ?_
  refine e_r_aload_n (pc' := 131) (by decide) dX10_init_130 rfl rfl rfl ?_
  refine e_q_new (c1 := 50) (pc' := 134) cl_1 cf_1 rfl h30 (by decide) kl_RX10_65 ins_1 ini_1 dX10_init_131 rfl ⟨Nat.le_trans (Nat.le_of_ble_eq_true rfl) hmo.1, hmo.2⟩ rfl ?_
  refine e_r_dup (pc' := 135) rfl dX10_init_134 rfl ?_
  refine e_r_aload_n (pc' := 136) (by decide) dX10_init_135 rfl rfl rfl ?_
  refine e_r_getr (k := 1) (q := 4) (pc' := 139) cl_10 rfl (Nat.le_of_ble_eq_true rfl) rfl rfl fl_RX10_19 rfl (Nat.le_of_ble_eq_true rfl) dX10_init_136 rfl ?_
  refine e_r_callI (a := 50) (av := [.inr (.inr 4)]) (st := [.inr (.inr 50), .inr (.inr 1)]) (pc' := 142) mcYX1_init ml_RX10_67 (by decide) (by simp [e_cat]) rfl rfl rfl dX10_init_139 rfl (k_X1_init_50 h31).1 ⟨(Nat.le_of_ble_eq_true rfl), Nat.le_refl _⟩ ⟨Nat.le_trans (Nat.le_of_ble_eq_true rfl) hmo.1, hmo.2⟩ ?_
  refine e_r_putr (fty := (.object "BoughtMondays$Giving")) (k := 10) (q := 50) (pc' := 145) cl_10 rfl (Nat.le_of_ble_eq_true rfl) rfl rfl fl_RX10_70 rfl rfl rfl (by decide +kernel) (fun _ => rfl) (fun _ => rfl) (by decide) dX10_init_142 rfl ?_
  refine e_r_aload_n (pc' := 146) (by decide) dX10_init_145 rfl rfl rfl ?_
  refine e_q_new (c1 := 53) (pc' := 149) cl_6 cf_6 rfl h33 (by decide) kl_RX10_74 ins_6 ini_6 dX10_init_146 rfl ⟨Nat.le_trans (Nat.le_of_ble_eq_true rfl) hmo.1, hmo.2⟩ rfl ?_
  refine e_r_dup (pc' := 150) rfl dX10_init_149 rfl ?_
  refine e_r_aload_n (pc' := 151) (by decide) dX10_init_150 rfl rfl rfl ?_
  refine e_r_getr (k := 1) (q := 4) (pc' := 154) cl_10 rfl (Nat.le_of_ble_eq_true rfl) rfl rfl fl_RX10_19 rfl (Nat.le_of_ble_eq_true rfl) dX10_init_151 rfl ?_
  refine e_r_aload_n (pc' := 155) (by decide) dX10_init_154 rfl rfl rfl ?_
  refine e_r_getr (k := 3) (q := 20) (pc' := 158) cl_10 rfl (Nat.le_of_ble_eq_true rfl) rfl rfl fl_RX10_29 rfl (Nat.le_of_ble_eq_true rfl) dX10_init_155 rfl ?_
  refine e_r_callI (a := 53) (av := [.inr (.inr 4), .inr (.inr 20)]) (st := [.inr (.inr 53), .inr (.inr 1)]) (pc' := 161) mcYX6_init ml_RX10_76 (by decide) (by simp [e_cat]) rfl rfl rfl dX10_init_158 rfl (k_X6_init_53 h34).1 ⟨(Nat.le_of_ble_eq_true rfl), Nat.le_refl _⟩ ⟨Nat.le_trans (Nat.le_of_ble_eq_true rfl) hmo.1, hmo.2⟩ ?_
  refine e_r_putr (fty := (.object "BoughtMondays$SkipSearch")) (k := 11) (q := 53) (pc' := 164) cl_10 rfl (Nat.le_of_ble_eq_true rfl) rfl rfl fl_RX10_77 rfl rfl rfl (by decide +kernel) (fun _ => rfl) (fun _ => rfl) (by decide) dX10_init_161 rfl ?_
  refine e_r_aload_n (pc' := 165) (by decide) dX10_init_164 rfl rfl rfl ?_
  refine e_q_new (c1 := 54) (pc' := 168) cl_9 cf_9 rfl h36 (by decide) kl_RX10_81 ins_9 ini_9 dX10_init_165 rfl ⟨Nat.le_trans (Nat.le_of_ble_eq_true rfl) hmo.1, hmo.2⟩ rfl ?_
  refine e_r_dup (pc' := 169) rfl dX10_init_168 rfl ?_
  refine e_r_aload_n (pc' := 170) (by decide) dX10_init_169 rfl rfl rfl ?_
  refine e_r_getr (k := 9) (q := 43) (pc' := 173) cl_10 rfl (Nat.le_of_ble_eq_true rfl) rfl rfl fl_RX10_62 rfl (Nat.le_of_ble_eq_true rfl) dX10_init_170 rfl ?_
  refine e_r_callI (a := 54) (av := [.inr (.inr 43)]) (st := [.inr (.inr 54), .inr (.inr 1)]) (pc' := 176) mcYX9_init ml_RX10_83 (by decide) (by simp [e_cat]) rfl rfl rfl dX10_init_173 rfl (k_X9_init_54 h37).1 ⟨(Nat.le_of_ble_eq_true rfl), Nat.le_refl _⟩ ⟨Nat.le_trans (Nat.le_of_ble_eq_true rfl) hmo.1, hmo.2⟩ ?_
  refine e_r_putr (fty := (.object "BoughtMondays$Year")) (k := 12) (q := 54) (pc' := 179) cl_10 rfl (Nat.le_of_ble_eq_true rfl) rfl rfl fl_RX10_86 rfl rfl rfl (by decide +kernel) (fun _ => rfl) (fun _ => rfl) (by decide) dX10_init_176 rfl ?_
  refine e_r_aload_n (pc' := 180) (by decide) dX10_init_179 rfl rfl rfl ?_
  refine e_q_new (c1 := 55) (pc' := 183) cl_5 cf_5 rfl h39 (by decide) kl_RX10_90 ins_5 ini_5 dX10_init_180 rfl ⟨Nat.le_trans (Nat.le_of_ble_eq_true rfl) hmo.1, hmo.2⟩ rfl ?_
  refine e_r_dup (pc' := 184) rfl dX10_init_183 rfl ?_
  refine e_r_callIN (a := 55) (av := []) (st := [.inr (.inr 55), .inr (.inr 1)]) (pc' := 187) mcYX5_init nl_RX10_92 (by decide) (by simp [e_cat]) rfl rfl rfl dX10_init_184 rfl (k_X5_init_55 h40).1 ⟨(Nat.le_of_ble_eq_true rfl), Nat.le_refl _⟩ ⟨Nat.le_trans (Nat.le_of_ble_eq_true rfl) hmo.1, hmo.2⟩ ?_
  refine e_r_putr (fty := (.object "BoughtMondays$Shelf")) (k := 13) (q := 55) (pc' := 190) cl_10 rfl (Nat.le_of_ble_eq_true rfl) rfl rfl fl_RX10_93 rfl rfl rfl (by decide +kernel) (fun _ => rfl) (fun _ => rfl) (by decide) dX10_init_187 rfl ?_
  refine e_r_aload_n (pc' := 191) (by decide) dX10_init_190 rfl rfl rfl ?_
  refine e_r_iconst (pc' := 192) dX10_init_191 rfl (by decide) ?_
  refine e_q_newQ (n := 3) (c1 := 57) (pc' := 195) rfl (by decide) h42 (by decide) (by decide) kl_RX10_90 dX10_init_192 rfl ⟨Nat.le_trans (Nat.le_of_ble_eq_true rfl) hmo.1, hmo.2⟩ rfl ?_
  refine e_r_putr (fty := (.array (.object "BoughtMondays$Shelf"))) (k := 14) (q := 57) (pc' := 198) cl_10 rfl (Nat.le_of_ble_eq_true rfl) rfl rfl fl_RX10_97 rfl rfl rfl (by decide +kernel) (fun _ => rfl) (fun _ => rfl) (by decide) dX10_init_195 rfl ?_
  refine e_r_aload_n (pc' := 199) (by decide) dX10_init_198 rfl rfl rfl ?_
  refine e_r_iconst (pc' := 200) dX10_init_199 rfl (by decide) ?_
  refine e_r_puti (k := 15) (pc' := 203) cl_10 rfl (Nat.le_of_ble_eq_true rfl) rfl rfl fl_RX10_101 rfl (by decide +kernel) dX10_init_200 rfl ?_
  refine e_r_aload_n (pc' := 204) (by decide) dX10_init_203 rfl rfl rfl ?_
  refine e_r_iconst (pc' := 205) dX10_init_204 rfl (by decide) ?_
  refine e_r_puti (k := 16) (pc' := 208) cl_10 rfl (Nat.le_of_ble_eq_true rfl) rfl rfl fl_RX10_105 rfl (by decide +kernel) dX10_init_205 rfl ?_
  refine e_r_aload_n (pc' := 209) (by decide) dX10_init_208 rfl rfl rfl ?_
  refine e_r_iconst (pc' := 210) dX10_init_209 rfl (by decide) ?_
  refine e_r_puti (k := 17) (pc' := 213) cl_10 rfl (Nat.le_of_ble_eq_true rfl) rfl rfl fl_RX10_108 rfl (by decide +kernel) dX10_init_210 rfl ?_
  refine e_r_iconst (pc' := 214) dX10_init_213 rfl (by decide) ?_
  refine e_r_istore_n (pc' := 215) (loc' := [some (.inr (.inr 1)), some (.inl 0)]) dX10_init_214 rfl rfl rfl rfl rfl ?_
  refine e_r_iload_n (pc' := 216) dX10_init_215 rfl rfl rfl ?_
  refine e_r_iconst (pc' := 217) dX10_init_216 rfl (by decide) ?_
  refine e_r_icmp_ge (tgt := 239) (pc' := 220) dX10_init_217 rfl rfl (fun q => absurd q (by decide)) (fun _ => ?_)
  refine e_r_aload_n (pc' := 221) (by decide) dX10_init_220 rfl rfl rfl ?_
  refine e_r_getr (k := 14) (q := 57) (pc' := 224) cl_10 rfl (Nat.le_of_ble_eq_true rfl) rfl rfl fl_RX10_97 rfl (Nat.le_of_ble_eq_true rfl) dX10_init_221 rfl ?_
  refine e_r_iload_n (pc' := 225) dX10_init_224 rfl rfl rfl ?_
  refine e_q_new (c1 := 58) (pc' := 228) cl_5 cf_5 rfl h44 (by decide) kl_RX10_90 ins_5 ini_5 dX10_init_225 rfl ⟨Nat.le_trans (Nat.le_of_ble_eq_true rfl) hmo.1, hmo.2⟩ rfl ?_
  refine e_r_dup (pc' := 229) rfl dX10_init_228 rfl ?_
  refine e_r_callIN (a := 58) (av := []) (st := [.inr (.inr 58), .inl 0, .inr (.inr 57)]) (pc' := 232) mcYX5_init nl_RX10_92 (by decide) (by simp [e_cat]) rfl rfl rfl dX10_init_229 rfl (k_X5_init_58 h45).1 ⟨(Nat.le_of_ble_eq_true rfl), Nat.le_refl _⟩ ⟨Nat.le_trans (Nat.le_of_ble_eq_true rfl) hmo.1, hmo.2⟩ ?_
  refine e_r_astq (j9 := 0) (pc' := 233) rfl (Nat.le_of_ble_eq_true rfl) rfl (Nat.le_of_ble_eq_true rfl) (by decide) (by decide) rfl rfl dX10_init_232 rfl ?_
  refine e_r_iinc (pc' := 236) (loc' := [some (.inr (.inr 1)), some (.inl 1)]) dX10_init_233 rfl rfl rfl rfl rfl ?_
  refine e_r_goto (pc' := 215) dX10_init_236 rfl ?_
  refine e_r_iload_n (pc' := 216) dX10_init_215 rfl rfl rfl ?_
  refine e_r_iconst (pc' := 217) dX10_init_216 rfl (by decide) ?_
  refine e_r_icmp_ge (tgt := 239) (pc' := 220) dX10_init_217 rfl rfl (fun q => absurd q (by decide)) (fun _ => ?_)
  refine e_r_aload_n (pc' := 221) (by decide) dX10_init_220 rfl rfl rfl ?_
  refine e_r_getr (k := 14) (q := 57) (pc' := 224) cl_10 rfl (Nat.le_of_ble_eq_true rfl) rfl rfl fl_RX10_97 rfl (Nat.le_of_ble_eq_true rfl) dX10_init_221 rfl ?_
  refine e_r_iload_n (pc' := 225) dX10_init_224 rfl rfl rfl ?_
  refine e_q_new (c1 := 60) (pc' := 228) cl_5 cf_5 rfl h47 (by decide) kl_RX10_90 ins_5 ini_5 dX10_init_225 rfl ⟨Nat.le_trans (Nat.le_of_ble_eq_true rfl) hmo.1, hmo.2⟩ rfl ?_
  refine e_r_dup (pc' := 229) rfl dX10_init_228 rfl ?_
  refine e_r_callIN (a := 60) (av := []) (st := [.inr (.inr 60), .inl 1, .inr (.inr 57)]) (pc' := 232) mcYX5_init nl_RX10_92 (by decide) (by simp [e_cat]) rfl rfl rfl dX10_init_229 rfl (k_X5_init_60 h48).1 ⟨(Nat.le_of_ble_eq_true rfl), Nat.le_refl _⟩ ⟨Nat.le_trans (Nat.le_of_ble_eq_true rfl) hmo.1, hmo.2⟩ ?_
  refine e_r_astq (j9 := 1) (pc' := 233) rfl (Nat.le_of_ble_eq_true rfl) rfl (Nat.le_of_ble_eq_true rfl) (by decide) (by decide) rfl rfl dX10_init_232 rfl ?_
  refine e_r_iinc (pc' := 236) (loc' := [some (.inr (.inr 1)), some (.inl 2)]) dX10_init_233 rfl rfl rfl rfl rfl ?_
  refine e_r_goto (pc' := 215) dX10_init_236 rfl ?_
  refine e_r_iload_n (pc' := 216) dX10_init_215 rfl rfl rfl ?_
  refine e_r_iconst (pc' := 217) dX10_init_216 rfl (by decide) ?_
  refine e_r_icmp_ge (tgt := 239) (pc' := 220) dX10_init_217 rfl rfl (fun q => absurd q (by decide)) (fun _ => ?_)
  refine e_r_aload_n (pc' := 221) (by decide) dX10_init_220 rfl rfl rfl ?_
  refine e_r_getr (k := 14) (q := 57) (pc' := 224) cl_10 rfl (Nat.le_of_ble_eq_true rfl) rfl rfl fl_RX10_97 rfl (Nat.le_of_ble_eq_true rfl) dX10_init_221 rfl ?_
  refine e_r_iload_n (pc' := 225) dX10_init_224 rfl rfl rfl ?_
  refine e_q_new (c1 := 62) (pc' := 228) cl_5 cf_5 rfl h50 (by decide) kl_RX10_90 ins_5 ini_5 dX10_init_225 rfl ⟨Nat.le_trans (Nat.le_of_ble_eq_true rfl) hmo.1, hmo.2⟩ rfl ?_
  refine e_r_dup (pc' := 229) rfl dX10_init_228 rfl ?_
  refine e_r_callIN (a := 62) (av := []) (st := [.inr (.inr 62), .inl 2, .inr (.inr 57)]) (pc' := 232) mcYX5_init nl_RX10_92 (by decide) (by simp [e_cat]) rfl rfl rfl dX10_init_229 rfl (k_X5_init_62 h51).1 ⟨(Nat.le_of_ble_eq_true rfl), Nat.le_refl _⟩ ⟨Nat.le_trans (Nat.le_of_ble_eq_true rfl) hmo.1, hmo.2⟩ ?_
  refine e_r_astq (j9 := 2) (pc' := 233) rfl (Nat.le_of_ble_eq_true rfl) rfl (Nat.le_of_ble_eq_true rfl) (by decide) (by decide) rfl rfl dX10_init_232 rfl ?_
  refine e_r_iinc (pc' := 236) (loc' := [some (.inr (.inr 1)), some (.inl 3)]) dX10_init_233 rfl rfl rfl rfl rfl ?_
  refine e_r_goto (pc' := 215) dX10_init_236 rfl ?_
  refine e_r_iload_n (pc' := 216) dX10_init_215 rfl rfl rfl ?_
  refine e_r_iconst (pc' := 217) dX10_init_216 rfl (by decide) ?_
  refine e_r_icmp_ge (tgt := 239) (pc' := 220) dX10_init_217 rfl rfl (fun _ => ?_) (fun q => absurd q (by decide))
  exact k9
set_option maxHeartbeats 4000000 in
set_option maxRecDepth 20000 in
theorem k_m {X : e_X} {d gn : Nat} {R : e_R} {M : e_M} {o : e_O} (hR : ∀ a j, R a j ≤ 64) (hmo : e_mn (556, gn, R, M) o.2) (k9 : e_G X (d + 1) YX11_init 245 [some (.inr (.inr 64))] [] (556, gn, (e_uR (e_zR (e_uR (e_zR (e_uR (e_mR (e_uR (e_mR (e_uR (e_zR (e_uR (e_zR (e_uR (e_mR (e_uR (e_zR (e_uR (e_zR (e_uR (e_mR (e_uR (e_mR (e_uR (e_mR (e_uR (e_mR (e_uR (e_mR (e_uR (e_mR (e_uR (e_mR (e_uR (e_mR (e_uR (e_zR (e_uR (e_zR (e_uR (e_zR (e_uR (e_zR (e_uR (e_zR (e_uR (e_zR (e_uR (e_zR (e_uR (e_zR R 65) 64 9 65) 66) 64 10 66) 67) 64 11 67) 68) 64 12 68) 69) 64 13 69) 70) 64 14 70) 71) 64 15 71) 72) 64 16 72) 72 6) 64 17 73) 79 6) 64 18 80) 86 12) 64 19 87) 99 12) 64 20 100) 112 160) 64 23 113) 273 160) 64 24 274) 434 6) 64 25 435) 441 6) 64 26 442) 449) 64 27 449) 450) 64 28 450) 450 80) 64 29 451) 532) 64 31 532) 533) 64 32 533) 533 16) 64 33 534) 550 3) 64 34 551) 555) 64 42 555) 556) 64 43 556), (e_z (e_z (e_mM (e_mM (e_z (e_z (e_mM (e_z (e_z (e_mM (e_mM (e_mM (e_mM (e_mM (e_mM (e_mM (e_mM (e_z (e_z (e_z (e_z (e_z (e_z (e_z (e_z (e_up M 64 3 (-1)) 65) 66) 67) 68) 69) 70) 71) 72) 72) 79) 86) 99) 112) 273) 434) 441) 449) 450) 450) 532) 533) 533) 550) 555) 556)) o) : e_G X (d + 1) YX11_init 0 [some (.inr (.inr 64))] [] (64, gn, R, M) o := by
  have h1 := h_z (show 64 + 1 = 65 from rfl) hR
  have h2 := h_u (a0 := 64) (k := 9) h1 (show 65 ≤ 65 from (Nat.le_of_ble_eq_true rfl))
  have h3 := h_z (show 65 + 1 = 66 from rfl) h2
  have h4 := h_u (a0 := 64) (k := 10) h3 (show 66 ≤ 66 from (Nat.le_of_ble_eq_true rfl))
  have h5 := h_z (show 66 + 1 = 67 from rfl) h4
  have h6 := h_u (a0 := 64) (k := 11) h5 (show 67 ≤ 67 from (Nat.le_of_ble_eq_true rfl))
  have h7 := h_z (show 67 + 1 = 68 from rfl) h6
  have h8 := h_u (a0 := 64) (k := 12) h7 (show 68 ≤ 68 from (Nat.le_of_ble_eq_true rfl))
  have h9 := h_z (show 68 + 1 = 69 from rfl) h8
  have h10 := h_u (a0 := 64) (k := 13) h9 (show 69 ≤ 69 from (Nat.le_of_ble_eq_true rfl))
  have h11 := h_z (show 69 + 1 = 70 from rfl) h10
  have h12 := h_u (a0 := 64) (k := 14) h11 (show 70 ≤ 70 from (Nat.le_of_ble_eq_true rfl))
  have h13 := h_z (show 70 + 1 = 71 from rfl) h12
  have h14 := h_u (a0 := 64) (k := 15) h13 (show 71 ≤ 71 from (Nat.le_of_ble_eq_true rfl))
  have h15 := h_z (show 71 + 1 = 72 from rfl) h14
  have h16 := h_u (a0 := 64) (k := 16) h15 (show 72 ≤ 72 from (Nat.le_of_ble_eq_true rfl))
  have h17 := h_m (N := 6) (show 72 + 1 + 6 = 79 from rfl) h16
  have h18 := h_u (a0 := 64) (k := 17) h17 (show 73 ≤ 79 from (Nat.le_of_ble_eq_true rfl))
  have h19 := h_m (N := 6) (show 79 + 1 + 6 = 86 from rfl) h18
  have h20 := h_u (a0 := 64) (k := 18) h19 (show 80 ≤ 86 from (Nat.le_of_ble_eq_true rfl))
  have h21 := h_m (N := 12) (show 86 + 1 + 12 = 99 from rfl) h20
  have h22 := h_u (a0 := 64) (k := 19) h21 (show 87 ≤ 99 from (Nat.le_of_ble_eq_true rfl))
  have h23 := h_m (N := 12) (show 99 + 1 + 12 = 112 from rfl) h22
  have h24 := h_u (a0 := 64) (k := 20) h23 (show 100 ≤ 112 from (Nat.le_of_ble_eq_true rfl))
  have h25 := h_m (N := 160) (show 112 + 1 + 160 = 273 from rfl) h24
  have h26 := h_u (a0 := 64) (k := 23) h25 (show 113 ≤ 273 from (Nat.le_of_ble_eq_true rfl))
  have h27 := h_m (N := 160) (show 273 + 1 + 160 = 434 from rfl) h26
  have h28 := h_u (a0 := 64) (k := 24) h27 (show 274 ≤ 434 from (Nat.le_of_ble_eq_true rfl))
  have h29 := h_m (N := 6) (show 434 + 1 + 6 = 441 from rfl) h28
  have h30 := h_u (a0 := 64) (k := 25) h29 (show 435 ≤ 441 from (Nat.le_of_ble_eq_true rfl))
  have h31 := h_m (N := 6) (show 441 + 1 + 6 = 448 from rfl) h30
  have h32 := h_u (a0 := 64) (k := 26) h31 (show 442 ≤ 448 from (Nat.le_of_ble_eq_true rfl))
  have h33 := h_z (show 448 + 1 = 449 from rfl) h32
  have h34 := h_u (a0 := 64) (k := 27) h33 (show 449 ≤ 449 from (Nat.le_of_ble_eq_true rfl))
  have h35 := h_z (show 449 + 1 = 450 from rfl) h34
  have h36 := h_u (a0 := 64) (k := 28) h35 (show 450 ≤ 450 from (Nat.le_of_ble_eq_true rfl))
  have h37 := h_m (N := 80) (show 450 + 1 + 80 = 531 from rfl) h36
  have h38 := h_u (a0 := 64) (k := 29) h37 (show 451 ≤ 531 from (Nat.le_of_ble_eq_true rfl))
  have h39 := h_z (show 531 + 1 = 532 from rfl) h38
  have h40 := h_u (a0 := 64) (k := 31) h39 (show 532 ≤ 532 from (Nat.le_of_ble_eq_true rfl))
  have h41 := h_z (show 532 + 1 = 533 from rfl) h40
  have h42 := h_u (a0 := 64) (k := 32) h41 (show 533 ≤ 533 from (Nat.le_of_ble_eq_true rfl))
  have h43 := h_m (N := 16) (show 533 + 1 + 16 = 550 from rfl) h42
  have h44 := h_u (a0 := 64) (k := 33) h43 (show 534 ≤ 550 from (Nat.le_of_ble_eq_true rfl))
  have h45 := h_m (N := 3) (show 550 + 1 + 3 = 554 from rfl) h44
  have h46 := h_u (a0 := 64) (k := 34) h45 (show 551 ≤ 554 from (Nat.le_of_ble_eq_true rfl))
  have h47 := h_z (show 554 + 1 = 555 from rfl) h46
  have h48 := h_u (a0 := 64) (k := 42) h47 (show 555 ≤ 555 from (Nat.le_of_ble_eq_true rfl))
  have h49 := h_z (show 555 + 1 = 556 from rfl) h48
  have h50 := h_u (a0 := 64) (k := 43) h49 (show 556 ≤ 556 from (Nat.le_of_ble_eq_true rfl))
  refine e_r_aload_n (pc' := 1) (by decide) dX11_init_0 rfl rfl rfl ?_
  refine e_r_obj (pc' := 4) ob_RX11_1 ob_i ob_c (by decide) rfl dX11_init_1 rfl ?_
  refine e_r_aload_n (pc' := 5) (by decide) dX11_init_4 rfl rfl rfl ?_
  refine e_r_iconst (pc' := 6) dX11_init_5 rfl (by decide) ?_
  refine e_r_puti (k := 3) (pc' := 9) cl_11 rfl (Nat.le_of_ble_eq_true rfl) rfl rfl fl_RX11_9 rfl (by decide +kernel) dX11_init_6 rfl ?_
  refine e_r_aload_n (pc' := 10) (by decide) dX11_init_9 rfl rfl rfl ?_
  refine e_r_sipush (pc' := 13) dX11_init_10 rfl (by decide) ?_
  refine e_q_newI (n := 600) (c1 := 65) (pc' := 15) rfl (by decide) hR (by decide) (by decide) ac_int dX11_init_13 rfl ⟨Nat.le_trans (Nat.le_of_ble_eq_true rfl) hmo.1, hmo.2⟩ rfl ?_
  refine e_r_putr (fty := (.array .int)) (k := 9) (q := 65) (pc' := 18) cl_11 rfl (Nat.le_of_ble_eq_true rfl) rfl rfl fl_RX11_13 rfl rfl rfl (by decide +kernel) (fun _ => rfl) (fun _ => rfl) (by decide) dX11_init_15 rfl ?_
  refine e_r_aload_n (pc' := 19) (by decide) dX11_init_18 rfl rfl rfl ?_
  refine e_r_iconst (pc' := 20) dX11_init_19 rfl (by decide) ?_
  refine e_q_newI (n := 2) (c1 := 66) (pc' := 22) rfl (by decide) h2 (by decide) (by decide) ac_int dX11_init_20 rfl ⟨Nat.le_trans (Nat.le_of_ble_eq_true rfl) hmo.1, hmo.2⟩ rfl ?_
  refine e_r_putr (fty := (.array .int)) (k := 10) (q := 66) (pc' := 25) cl_11 rfl (Nat.le_of_ble_eq_true rfl) rfl rfl fl_RX11_17 rfl rfl rfl (by decide +kernel) (fun _ => rfl) (fun _ => rfl) (by decide) dX11_init_22 rfl ?_
  refine e_r_aload_n (pc' := 26) (by decide) dX11_init_25 rfl rfl rfl ?_
  refine e_r_iconst (pc' := 27) dX11_init_26 rfl (by decide) ?_
  refine e_q_newI (n := 3) (c1 := 67) (pc' := 29) rfl (by decide) h4 (by decide) (by decide) ac_int dX11_init_27 rfl ⟨Nat.le_trans (Nat.le_of_ble_eq_true rfl) hmo.1, hmo.2⟩ rfl ?_
  refine e_r_putr (fty := (.array .int)) (k := 11) (q := 67) (pc' := 32) cl_11 rfl (Nat.le_of_ble_eq_true rfl) rfl rfl fl_RX11_20 rfl rfl rfl (by decide +kernel) (fun _ => rfl) (fun _ => rfl) (by decide) dX11_init_29 rfl ?_
  refine e_r_aload_n (pc' := 33) (by decide) dX11_init_32 rfl rfl rfl ?_
  refine e_r_iconst (pc' := 34) dX11_init_33 rfl (by decide) ?_
  refine e_q_newI (n := 3) (c1 := 68) (pc' := 36) rfl (by decide) h6 (by decide) (by decide) ac_int dX11_init_34 rfl ⟨Nat.le_trans (Nat.le_of_ble_eq_true rfl) hmo.1, hmo.2⟩ rfl ?_
  refine e_r_putr (fty := (.array .int)) (k := 12) (q := 68) (pc' := 39) cl_11 rfl (Nat.le_of_ble_eq_true rfl) rfl rfl fl_RX11_23 rfl rfl rfl (by decide +kernel) (fun _ => rfl) (fun _ => rfl) (by decide) dX11_init_36 rfl ?_
  refine e_r_aload_n (pc' := 40) (by decide) dX11_init_39 rfl rfl rfl ?_
  refine e_r_bipush (pc' := 42) dX11_init_40 rfl (by decide) ?_
  refine e_q_newI (n := 6) (c1 := 69) (pc' := 44) rfl (by decide) h8 (by decide) (by decide) ac_int dX11_init_42 rfl ⟨Nat.le_trans (Nat.le_of_ble_eq_true rfl) hmo.1, hmo.2⟩ rfl ?_
  refine e_r_putr (fty := (.array .int)) (k := 13) (q := 69) (pc' := 47) cl_11 rfl (Nat.le_of_ble_eq_true rfl) rfl rfl fl_RX11_26 rfl rfl rfl (by decide +kernel) (fun _ => rfl) (fun _ => rfl) (by decide) dX11_init_44 rfl ?_
  refine e_r_aload_n (pc' := 48) (by decide) dX11_init_47 rfl rfl rfl ?_
  refine e_r_bipush (pc' := 50) dX11_init_48 rfl (by decide) ?_
  refine e_q_newI (n := 6) (c1 := 70) (pc' := 52) rfl (by decide) h10 (by decide) (by decide) ac_int dX11_init_50 rfl ⟨Nat.le_trans (Nat.le_of_ble_eq_true rfl) hmo.1, hmo.2⟩ rfl ?_
  refine e_r_putr (fty := (.array .int)) (k := 14) (q := 70) (pc' := 55) cl_11 rfl (Nat.le_of_ble_eq_true rfl) rfl rfl fl_RX11_29 rfl rfl rfl (by decide +kernel) (fun _ => rfl) (fun _ => rfl) (by decide) dX11_init_52 rfl ?_
  refine e_r_aload_n (pc' := 56) (by decide) dX11_init_55 rfl rfl rfl ?_
  refine e_r_bipush (pc' := 58) dX11_init_56 rfl (by decide) ?_
  refine e_q_newI (n := 6) (c1 := 71) (pc' := 60) rfl (by decide) h12 (by decide) (by decide) ac_int dX11_init_58 rfl ⟨Nat.le_trans (Nat.le_of_ble_eq_true rfl) hmo.1, hmo.2⟩ rfl ?_
  refine e_r_putr (fty := (.array .int)) (k := 15) (q := 71) (pc' := 63) cl_11 rfl (Nat.le_of_ble_eq_true rfl) rfl rfl fl_RX11_32 rfl rfl rfl (by decide +kernel) (fun _ => rfl) (fun _ => rfl) (by decide) dX11_init_60 rfl ?_
  refine e_r_aload_n (pc' := 64) (by decide) dX11_init_63 rfl rfl rfl ?_
  refine e_r_bipush (pc' := 66) dX11_init_64 rfl (by decide) ?_
  refine e_q_newI (n := 6) (c1 := 72) (pc' := 68) rfl (by decide) h14 (by decide) (by decide) ac_int dX11_init_66 rfl ⟨Nat.le_trans (Nat.le_of_ble_eq_true rfl) hmo.1, hmo.2⟩ rfl ?_
  refine e_r_putr (fty := (.array .int)) (k := 16) (q := 72) (pc' := 71) cl_11 rfl (Nat.le_of_ble_eq_true rfl) rfl rfl fl_RX11_35 rfl rfl rfl (by decide +kernel) (fun _ => rfl) (fun _ => rfl) (by decide) dX11_init_68 rfl ?_
  refine e_r_aload_n (pc' := 72) (by decide) dX11_init_71 rfl rfl rfl ?_
  refine e_r_bipush (pc' := 74) dX11_init_72 rfl (by decide) ?_
  refine e_r_iconst (pc' := 75) dX11_init_74 rfl (by decide) ?_
  refine e_q_newM (N := 6) (K := 2) (c1 := 73) (c2 := 79) (pc' := 79) rfl (by decide +kernel) (by decide) (by decide) h16 (by decide) (by decide) (by decide) (by decide +kernel) kl_RX11_38 ac_int dX11_init_75 rfl ⟨Nat.le_trans (Nat.le_of_ble_eq_true rfl) hmo.1, hmo.2⟩ rfl rfl ?_
  refine e_r_putr (fty := (.array (.array .int))) (k := 17) (q := 73) (pc' := 82) cl_11 rfl (Nat.le_of_ble_eq_true rfl) rfl rfl fl_RX11_40 rfl rfl rfl (by decide +kernel) (fun _ => rfl) (fun _ => rfl) (by decide) dX11_init_79 rfl ?_
  refine e_r_aload_n (pc' := 83) (by decide) dX11_init_82 rfl rfl rfl ?_
  refine e_r_bipush (pc' := 85) dX11_init_83 rfl (by decide) ?_
  refine e_r_iconst (pc' := 86) dX11_init_85 rfl (by decide) ?_
  refine e_q_newM (N := 6) (K := 2) (c1 := 80) (c2 := 86) (pc' := 90) rfl (by decide +kernel) (by decide) (by decide) h18 (by decide) (by decide) (by decide) (by decide +kernel) kl_RX11_38 ac_int dX11_init_86 rfl ⟨Nat.le_trans (Nat.le_of_ble_eq_true rfl) hmo.1, hmo.2⟩ rfl rfl ?_
  refine e_r_putr (fty := (.array (.array .int))) (k := 18) (q := 80) (pc' := 93) cl_11 rfl (Nat.le_of_ble_eq_true rfl) rfl rfl fl_RX11_43 rfl rfl rfl (by decide +kernel) (fun _ => rfl) (fun _ => rfl) (by decide) dX11_init_90 rfl ?_
  refine e_r_aload_n (pc' := 94) (by decide) dX11_init_93 rfl rfl rfl ?_
  refine e_r_bipush (pc' := 96) dX11_init_94 rfl (by decide) ?_
  refine e_r_iconst (pc' := 97) dX11_init_96 rfl (by decide) ?_
  refine e_q_newM (N := 12) (K := 3) (c1 := 87) (c2 := 99) (pc' := 101) rfl (by decide +kernel) (by decide) (by decide) h20 (by decide) (by decide) (by decide) (by decide +kernel) kl_RX11_38 ac_int dX11_init_97 rfl ⟨Nat.le_trans (Nat.le_of_ble_eq_true rfl) hmo.1, hmo.2⟩ rfl rfl ?_
  refine e_r_putr (fty := (.array (.array .int))) (k := 19) (q := 87) (pc' := 104) cl_11 rfl (Nat.le_of_ble_eq_true rfl) rfl rfl fl_RX11_46 rfl rfl rfl (by decide +kernel) (fun _ => rfl) (fun _ => rfl) (by decide) dX11_init_101 rfl ?_
  refine e_r_aload_n (pc' := 105) (by decide) dX11_init_104 rfl rfl rfl ?_
  refine e_r_bipush (pc' := 107) dX11_init_105 rfl (by decide) ?_
  refine e_r_iconst (pc' := 108) dX11_init_107 rfl (by decide) ?_
  refine e_q_newM (N := 12) (K := 3) (c1 := 100) (c2 := 112) (pc' := 112) rfl (by decide +kernel) (by decide) (by decide) h22 (by decide) (by decide) (by decide) (by decide +kernel) kl_RX11_38 ac_int dX11_init_108 rfl ⟨Nat.le_trans (Nat.le_of_ble_eq_true rfl) hmo.1, hmo.2⟩ rfl rfl ?_
  refine e_r_putr (fty := (.array (.array .int))) (k := 20) (q := 100) (pc' := 115) cl_11 rfl (Nat.le_of_ble_eq_true rfl) rfl rfl fl_RX11_49 rfl rfl rfl (by decide +kernel) (fun _ => rfl) (fun _ => rfl) (by decide) dX11_init_112 rfl ?_
  refine e_r_aload_n (pc' := 116) (by decide) dX11_init_115 rfl rfl rfl ?_
  refine e_r_sipush (pc' := 119) dX11_init_116 rfl (by decide) ?_
  refine e_r_iconst (pc' := 120) dX11_init_119 rfl (by decide) ?_
  refine e_q_newM (N := 160) (K := 2) (c1 := 113) (c2 := 273) (pc' := 124) rfl (by decide +kernel) (by decide) (by decide) h24 (by decide) (by decide) (by decide) (by decide +kernel) kl_RX11_38 ac_int dX11_init_120 rfl ⟨Nat.le_trans (Nat.le_of_ble_eq_true rfl) hmo.1, hmo.2⟩ rfl rfl ?_
  refine e_r_putr (fty := (.array (.array .int))) (k := 23) (q := 113) (pc' := 127) cl_11 rfl (Nat.le_of_ble_eq_true rfl) rfl rfl fl_RX11_52 rfl rfl rfl (by decide +kernel) (fun _ => rfl) (fun _ => rfl) (by decide) dX11_init_124 rfl ?_
  refine e_r_aload_n (pc' := 128) (by decide) dX11_init_127 rfl rfl rfl ?_
  refine e_r_sipush (pc' := 131) dX11_init_128 rfl (by decide) ?_
  refine e_r_iconst (pc' := 132) dX11_init_131 rfl (by decide) ?_
  refine e_q_newM (N := 160) (K := 2) (c1 := 274) (c2 := 434) (pc' := 136) rfl (by decide +kernel) (by decide) (by decide) h26 (by decide) (by decide) (by decide) (by decide +kernel) kl_RX11_38 ac_int dX11_init_132 rfl ⟨Nat.le_trans (Nat.le_of_ble_eq_true rfl) hmo.1, hmo.2⟩ rfl rfl ?_
  refine e_r_putr (fty := (.array (.array .int))) (k := 24) (q := 274) (pc' := 139) cl_11 rfl (Nat.le_of_ble_eq_true rfl) rfl rfl fl_RX11_55 rfl rfl rfl (by decide +kernel) (fun _ => rfl) (fun _ => rfl) (by decide) dX11_init_136 rfl ?_
  refine e_r_aload_n (pc' := 140) (by decide) dX11_init_139 rfl rfl rfl ?_
  refine e_r_bipush (pc' := 142) dX11_init_140 rfl (by decide) ?_
  refine e_r_iconst (pc' := 143) dX11_init_142 rfl (by decide) ?_
  refine e_q_newM (N := 6) (K := 2) (c1 := 435) (c2 := 441) (pc' := 147) rfl (by decide +kernel) (by decide) (by decide) h28 (by decide) (by decide) (by decide) (by decide +kernel) kl_RX11_38 ac_int dX11_init_143 rfl ⟨Nat.le_trans (Nat.le_of_ble_eq_true rfl) hmo.1, hmo.2⟩ rfl rfl ?_
  refine e_r_putr (fty := (.array (.array .int))) (k := 25) (q := 435) (pc' := 150) cl_11 rfl (Nat.le_of_ble_eq_true rfl) rfl rfl fl_RX11_58 rfl rfl rfl (by decide +kernel) (fun _ => rfl) (fun _ => rfl) (by decide) dX11_init_147 rfl ?_
  refine e_r_aload_n (pc' := 151) (by decide) dX11_init_150 rfl rfl rfl ?_
  refine e_r_bipush (pc' := 153) dX11_init_151 rfl (by decide) ?_
  refine e_r_iconst (pc' := 154) dX11_init_153 rfl (by decide) ?_
  refine e_q_newM (N := 6) (K := 2) (c1 := 442) (c2 := 448) (pc' := 158) rfl (by decide +kernel) (by decide) (by decide) h30 (by decide) (by decide) (by decide) (by decide +kernel) kl_RX11_38 ac_int dX11_init_154 rfl ⟨Nat.le_trans (Nat.le_of_ble_eq_true rfl) hmo.1, hmo.2⟩ rfl rfl ?_
  refine e_r_putr (fty := (.array (.array .int))) (k := 26) (q := 442) (pc' := 161) cl_11 rfl (Nat.le_of_ble_eq_true rfl) rfl rfl fl_RX11_61 rfl rfl rfl (by decide +kernel) (fun _ => rfl) (fun _ => rfl) (by decide) dX11_init_158 rfl ?_
  refine e_r_aload_n (pc' := 162) (by decide) dX11_init_161 rfl rfl rfl ?_
  refine e_r_sipush (pc' := 165) dX11_init_162 rfl (by decide) ?_
  refine e_q_newI (n := 160) (c1 := 449) (pc' := 167) rfl (by decide) h32 (by decide) (by decide) ac_int dX11_init_165 rfl ⟨Nat.le_trans (Nat.le_of_ble_eq_true rfl) hmo.1, hmo.2⟩ rfl ?_
  refine e_r_putr (fty := (.array .int)) (k := 27) (q := 449) (pc' := 170) cl_11 rfl (Nat.le_of_ble_eq_true rfl) rfl rfl fl_RX11_64 rfl rfl rfl (by decide +kernel) (fun _ => rfl) (fun _ => rfl) (by decide) dX11_init_167 rfl ?_
  refine e_r_aload_n (pc' := 171) (by decide) dX11_init_170 rfl rfl rfl ?_
  refine e_r_bipush (pc' := 173) dX11_init_171 rfl (by decide) ?_
  refine e_q_newI (n := 8) (c1 := 450) (pc' := 175) rfl (by decide) h34 (by decide) (by decide) ac_int dX11_init_173 rfl ⟨Nat.le_trans (Nat.le_of_ble_eq_true rfl) hmo.1, hmo.2⟩ rfl ?_
  refine e_r_putr (fty := (.array .int)) (k := 28) (q := 450) (pc' := 178) cl_11 rfl (Nat.le_of_ble_eq_true rfl) rfl rfl fl_RX11_67 rfl rfl rfl (by decide +kernel) (fun _ => rfl) (fun _ => rfl) (by decide) dX11_init_175 rfl ?_
  refine e_r_aload_n (pc' := 179) (by decide) dX11_init_178 rfl rfl rfl ?_
  refine e_r_bipush (pc' := 181) dX11_init_179 rfl (by decide) ?_
  refine e_r_iconst (pc' := 182) dX11_init_181 rfl (by decide) ?_
  refine e_q_newM (N := 80) (K := 4) (c1 := 451) (c2 := 531) (pc' := 186) rfl (by decide +kernel) (by decide) (by decide) h36 (by decide) (by decide) (by decide) (by decide +kernel) kl_RX11_38 ac_int dX11_init_182 rfl ⟨Nat.le_trans (Nat.le_of_ble_eq_true rfl) hmo.1, hmo.2⟩ rfl rfl ?_
  refine e_r_putr (fty := (.array (.array .int))) (k := 29) (q := 451) (pc' := 189) cl_11 rfl (Nat.le_of_ble_eq_true rfl) rfl rfl fl_RX11_70 rfl rfl rfl (by decide +kernel) (fun _ => rfl) (fun _ => rfl) (by decide) dX11_init_186 rfl ?_
  refine e_r_aload_n (pc' := 190) (by decide) dX11_init_189 rfl rfl rfl ?_
  refine e_r_bipush (pc' := 192) dX11_init_190 rfl (by decide) ?_
  refine e_q_newI (n := 56) (c1 := 532) (pc' := 194) rfl (by decide) h38 (by decide) (by decide) ac_int dX11_init_192 rfl ⟨Nat.le_trans (Nat.le_of_ble_eq_true rfl) hmo.1, hmo.2⟩ rfl ?_
  refine e_r_putr (fty := (.array .int)) (k := 31) (q := 532) (pc' := 197) cl_11 rfl (Nat.le_of_ble_eq_true rfl) rfl rfl fl_RX11_73 rfl rfl rfl (by decide +kernel) (fun _ => rfl) (fun _ => rfl) (by decide) dX11_init_194 rfl ?_
  refine e_r_aload_n (pc' := 198) (by decide) dX11_init_197 rfl rfl rfl ?_
  refine e_r_bipush (pc' := 200) dX11_init_198 rfl (by decide) ?_
  refine e_q_newI (n := 56) (c1 := 533) (pc' := 202) rfl (by decide) h40 (by decide) (by decide) ac_int dX11_init_200 rfl ⟨Nat.le_trans (Nat.le_of_ble_eq_true rfl) hmo.1, hmo.2⟩ rfl ?_
  refine e_r_putr (fty := (.array .int)) (k := 32) (q := 533) (pc' := 205) cl_11 rfl (Nat.le_of_ble_eq_true rfl) rfl rfl fl_RX11_76 rfl rfl rfl (by decide +kernel) (fun _ => rfl) (fun _ => rfl) (by decide) dX11_init_202 rfl ?_
  refine e_r_aload_n (pc' := 206) (by decide) dX11_init_205 rfl rfl rfl ?_
  refine e_r_bipush (pc' := 208) dX11_init_206 rfl (by decide) ?_
  refine e_r_bipush (pc' := 210) dX11_init_208 rfl (by decide) ?_
  refine e_q_newM (N := 16) (K := 56) (c1 := 534) (c2 := 550) (pc' := 214) rfl (by decide +kernel) (by decide) (by decide) h42 (by decide) (by decide) (by decide) (by decide +kernel) kl_RX11_38 ac_int dX11_init_210 rfl ⟨Nat.le_trans (Nat.le_of_ble_eq_true rfl) hmo.1, hmo.2⟩ rfl rfl ?_
  refine e_r_putr (fty := (.array (.array .int))) (k := 33) (q := 534) (pc' := 217) cl_11 rfl (Nat.le_of_ble_eq_true rfl) rfl rfl fl_RX11_79 rfl rfl rfl (by decide +kernel) (fun _ => rfl) (fun _ => rfl) (by decide) dX11_init_214 rfl ?_
  refine e_r_aload_n (pc' := 218) (by decide) dX11_init_217 rfl rfl rfl ?_
  refine e_r_iconst (pc' := 219) dX11_init_218 rfl (by decide) ?_
  refine e_r_sipush (pc' := 222) dX11_init_219 rfl (by decide) ?_
  refine e_q_newM (N := 3) (K := 953) (c1 := 551) (c2 := 554) (pc' := 226) rfl (by decide +kernel) (by decide) (by decide) h44 (by decide) (by decide) (by decide) (by decide +kernel) kl_RX11_38 ac_int dX11_init_222 rfl ⟨Nat.le_trans (Nat.le_of_ble_eq_true rfl) hmo.1, hmo.2⟩ rfl rfl ?_
  refine e_r_putr (fty := (.array (.array .int))) (k := 34) (q := 551) (pc' := 229) cl_11 rfl (Nat.le_of_ble_eq_true rfl) rfl rfl fl_RX11_82 rfl rfl rfl (by decide +kernel) (fun _ => rfl) (fun _ => rfl) (by decide) dX11_init_226 rfl ?_
  refine e_r_aload_n (pc' := 230) (by decide) dX11_init_229 rfl rfl rfl ?_
  refine e_r_bipush (pc' := 232) dX11_init_230 rfl (by decide) ?_
  refine e_q_newI (n := 6) (c1 := 555) (pc' := 234) rfl (by decide) h46 (by decide) (by decide) ac_int dX11_init_232 rfl ⟨Nat.le_trans (Nat.le_of_ble_eq_true rfl) hmo.1, hmo.2⟩ rfl ?_
  refine e_r_putr (fty := (.array .int)) (k := 42) (q := 555) (pc' := 237) cl_11 rfl (Nat.le_of_ble_eq_true rfl) rfl rfl fl_RX11_85 rfl rfl rfl (by decide +kernel) (fun _ => rfl) (fun _ => rfl) (by decide) dX11_init_234 rfl ?_
  refine e_r_aload_n (pc' := 238) (by decide) dX11_init_237 rfl rfl rfl ?_
  refine e_r_bipush (pc' := 240) dX11_init_238 rfl (by decide) ?_
  refine e_q_newI (n := 6) (c1 := 556) (pc' := 242) rfl (by decide) h48 (by decide) (by decide) ac_int dX11_init_240 rfl ⟨Nat.le_trans (Nat.le_of_ble_eq_true rfl) hmo.1, hmo.2⟩ rfl ?_
  refine e_r_putr (fty := (.array .int)) (k := 43) (q := 556) (pc' := 245) cl_11 rfl (Nat.le_of_ble_eq_true rfl) rfl rfl fl_RX11_88 rfl rfl rfl (by decide +kernel) (fun _ => rfl) (fun _ => rfl) (by decide) dX11_init_242 rfl ?_
  exact k9
