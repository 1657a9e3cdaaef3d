def YL_town : e_Y := (yL_town, cL_town, 4, some .int, RL, [(0, 9, 12, 13)])
theorem mhYL_town : e_mh YL_town 3 := ⟨e_in_3 110 rfl rfl, e_in_1 0 rfl rfl, by decide, rfl, ⟨by decide +kernel, by decide +kernel, by decide +kernel⟩, by decide, e_in_3 109 rfl rfl⟩
def YL_law : e_Y := (yL_law, cL_law, 4, some .int, RL, [(0, 9, 12, 13)])
theorem mhYL_law : e_mh YL_law 3 := ⟨e_in_4 98 rfl rfl, e_in_1 0 rfl rfl, by decide, rfl, ⟨by decide +kernel, by decide +kernel, by decide +kernel⟩, by decide, e_in_4 97 rfl rfl⟩
def YL_work : e_Y := (yL_work, cL_work, 4, some .int, RL, [(0, 9, 12, 13)])
theorem mhYL_work : e_mh YL_work 3 := ⟨e_in_4 159 rfl rfl, e_in_1 0 rfl rfl, by decide, rfl, ⟨by decide +kernel, by decide +kernel, by decide +kernel⟩, by decide, e_in_4 158 rfl rfl⟩
def YL_book : e_Y := (yL_book, cL_book, 4, some .int, RL, [(0, 9, 12, 13)])
theorem mhYL_book : e_mh YL_book 3 := ⟨e_in_4 230 rfl rfl, e_in_1 0 rfl rfl, by decide, rfl, ⟨by decide +kernel, by decide +kernel, by decide +kernel⟩, by decide, e_in_4 229 rfl rfl⟩
def YL_told : e_Y := (yL_told, cL_told, 4, some .int, RL, [(0, 9, 12, 13)])
theorem mhYL_told : e_mh YL_told 3 := ⟨e_in_5 16 rfl rfl, e_in_1 0 rfl rfl, by decide, rfl, ⟨by decide +kernel, by decide +kernel, by decide +kernel⟩, by decide, e_in_5 15 rfl rfl⟩
def YL_person : e_Y := (yL_person, cL_person, 5, some .int, RL, [(0, 10, 13, 31), (0, 10, 17, 13)])
theorem mhYL_person : e_mh YL_person 4 := ⟨e_in_5 40 rfl rfl, e_in_1 0 rfl rfl, by decide, rfl, ⟨by decide +kernel, by decide +kernel, by decide +kernel⟩, by decide, e_in_5 39 rfl rfl⟩
def YL_duty : e_Y := (yL_duty, cL_duty, 5, some .int, RL, [(0, 10, 13, 31), (0, 10, 17, 13)])
theorem mhYL_duty : e_mh YL_duty 4 := ⟨e_in_5 72 rfl rfl, e_in_1 0 rfl rfl, by decide, rfl, ⟨by decide +kernel, by decide +kernel, by decide +kernel⟩, by decide, e_in_5 71 rfl rfl⟩
def YL_task : e_Y := (yL_task, cL_task, 5, some .int, RL, [(0, 10, 13, 31), (0, 10, 17, 13)])
theorem mhYL_task : e_mh YL_task 4 := ⟨e_in_5 83 rfl rfl, e_in_1 0 rfl rfl, by decide, rfl, ⟨by decide +kernel, by decide +kernel, by decide +kernel⟩, by decide, e_in_5 82 rfl rfl⟩
def YL_price : e_Y := (yL_price, cL_price, 4, some .int, RL, [(0, 9, 12, 31)])
theorem mhYL_price : e_mh YL_price 3 := ⟨e_in_5 94 rfl rfl, e_in_1 0 rfl rfl, by decide, rfl, ⟨by decide +kernel, by decide +kernel, by decide +kernel⟩, by decide, e_in_5 93 rfl rfl⟩
def YL_would : e_Y := (yL_would, cL_would, 11, some .int, RL, [(0, 22, 25, 13)])
theorem mhYL_would : e_mh YL_would 10 := ⟨e_in_5 102 rfl rfl, e_in_1 0 rfl rfl, by decide, rfl, ⟨by decide +kernel, by decide +kernel, by decide +kernel⟩, by decide, e_in_5 101 rfl rfl⟩
def YL_can : e_Y := (yL_can, cL_can, 4, some .int, RL, [(0, 16, 19, 31)])
theorem mhYL_can : e_mh YL_can 3 := ⟨e_in_5 110 rfl rfl, e_in_1 0 rfl rfl, by decide, rfl, ⟨by decide +kernel, by decide +kernel, by decide +kernel⟩, by decide, e_in_5 109 rfl rfl⟩
def YL_ahead : e_Y := (yL_ahead, cL_ahead, 5, some .int, RL, [(0, 10, 13, 13)])
theorem mhYL_ahead : e_mh YL_ahead 4 := ⟨e_in_5 121 rfl rfl, e_in_1 0 rfl rfl, by decide, rfl, ⟨by decide +kernel, by decide +kernel, by decide +kernel⟩, by decide, e_in_5 120 rfl rfl⟩
def YL_stay : e_Y := (yL_stay, cL_stay, 4, some .int, RL, [(0, 9, 12, 13)])
theorem mhYL_stay : e_mh YL_stay 3 := ⟨e_in_5 133 rfl rfl, e_in_1 0 rfl rfl, by decide, rfl, ⟨by decide +kernel, by decide +kernel, by decide +kernel⟩, by decide, e_in_5 132 rfl rfl⟩
def YL_giver : e_Y := (yL_giver, cL_giver, 4, some .int, RL, [(0, 9, 12, 31)])
theorem mhYL_giver : e_mh YL_giver 3 := ⟨e_in_5 142 rfl rfl, e_in_1 0 rfl rfl, by decide, rfl, ⟨by decide +kernel, by decide +kernel, by decide +kernel⟩, by decide, e_in_5 141 rfl rfl⟩
def YL_skips : e_Y := (yL_skips, cL_skips, 6, some .int, RL, [(0, 12, 15, 31), (0, 12, 19, 13)])
theorem mhYL_skips : e_mh YL_skips 5 := ⟨e_in_5 149 rfl rfl, e_in_1 0 rfl rfl, by decide, rfl, ⟨by decide +kernel, by decide +kernel, by decide +kernel⟩, by decide, e_in_5 148 rfl rfl⟩
def YL_apart : e_Y := (yL_apart, cL_apart, 6, some .int, RL, [(0, 12, 15, 31), (0, 12, 19, 13)])
theorem mhYL_apart : e_mh YL_apart 5 := ⟨e_in_5 177 rfl rfl, e_in_1 0 rfl rfl, by decide, rfl, ⟨by decide +kernel, by decide +kernel, by decide +kernel⟩, by decide, e_in_5 176 rfl rfl⟩
def YL_together : e_Y := (yL_together, cL_together, 6, some .int, RL, [(0, 12, 15, 31), (0, 12, 19, 13)])
theorem mhYL_together : e_mh YL_together 5 := ⟨e_in_5 199 rfl rfl, e_in_1 0 rfl rfl, by decide, rfl, ⟨by decide +kernel, by decide +kernel, by decide +kernel⟩, by decide, e_in_5 198 rfl rfl⟩
def YL_met : e_Y := (yL_met, cL_met, 6, some .int, RL, [(0, 11, 14, 13)])
theorem mhYL_met : e_mh YL_met 5 := ⟨e_in_5 207 rfl rfl, e_in_1 0 rfl rfl, by decide, rfl, ⟨by decide +kernel, by decide +kernel, by decide +kernel⟩, by decide, e_in_5 206 rfl rfl⟩
def YL_open : e_Y := (yL_open, cL_open, 6, some .int, RL, [(0, 12, 15, 13)])
theorem mhYL_open : e_mh YL_open 5 := ⟨e_in_5 216 rfl rfl, e_in_1 0 rfl rfl, by decide, rfl, ⟨by decide +kernel, by decide +kernel, by decide +kernel⟩, by decide, e_in_5 215 rfl rfl⟩
def YL_share : e_Y := (yL_share, cL_share, 6, some .int, RL, [(0, 12, 15, 31), (0, 12, 19, 13)])
theorem mhYL_share : e_mh YL_share 5 := ⟨e_in_5 226 rfl rfl, e_in_1 0 rfl rfl, by decide, rfl, ⟨by decide +kernel, by decide +kernel, by decide +kernel⟩, by decide, e_in_5 225 rfl rfl⟩
def YL_youngest : e_Y := (yL_youngest, cL_youngest, 4, some .int, RL, [(0, 9, 12, 13)])
theorem mhYL_youngest : e_mh YL_youngest 3 := ⟨e_in_5 235 rfl rfl, e_in_1 0 rfl rfl, by decide, rfl, ⟨by decide +kernel, by decide +kernel, by decide +kernel⟩, by decide, e_in_5 234 rfl rfl⟩
def YL_next : e_Y := (yL_next, cL_next, 5, some .int, RL, [(0, 10, 13, 31), (0, 10, 17, 13)])
theorem mhYL_next : e_mh YL_next 4 := ⟨e_in_6 2 rfl rfl, e_in_1 0 rfl rfl, by decide, rfl, ⟨by decide +kernel, by decide +kernel, by decide +kernel⟩, by decide, e_in_6 1 rfl rfl⟩
def YL_debt : e_Y := (yL_debt, cL_debt, 4, some .int, RL, [(0, 9, 12, 31)])
theorem mhYL_debt : e_mh YL_debt 3 := ⟨e_in_6 10 rfl rfl, e_in_1 0 rfl rfl, by decide, rfl, ⟨by decide +kernel, by decide +kernel, by decide +kernel⟩, by decide, e_in_6 9 rfl rfl⟩
def YL_spare : e_Y := (yL_spare, cL_spare, 5, some .int, RL, [(0, 10, 13, 31), (0, 10, 17, 13)])
theorem mhYL_spare : e_mh YL_spare 4 := ⟨e_in_6 17 rfl rfl, e_in_1 0 rfl rfl, by decide, rfl, ⟨by decide +kernel, by decide +kernel, by decide +kernel⟩, by decide, e_in_6 16 rfl rfl⟩
def YL_cheapest : e_Y := (yL_cheapest, cL_cheapest, 4, some .int, RL, [(0, 9, 12, 13)])
theorem mhYL_cheapest : e_mh YL_cheapest 3 := ⟨e_in_6 24 rfl rfl, e_in_1 0 rfl rfl, by decide, rfl, ⟨by decide +kernel, by decide +kernel, by decide +kernel⟩, by decide, e_in_6 23 rfl rfl⟩
def YL_crowd : e_Y := (yL_crowd, cL_crowd, 4, some .int, RL, [(0, 9, 12, 13)])
theorem mhYL_crowd : e_mh YL_crowd 3 := ⟨e_in_6 31 rfl rfl, e_in_1 0 rfl rfl, by decide, rfl, ⟨by decide +kernel, by decide +kernel, by decide +kernel⟩, by decide, e_in_6 30 rfl rfl⟩
def YL_clear : e_Y := (yL_clear, cL_clear, 5, some .int, RL, [(0, 10, 13, 31), (0, 10, 17, 13)])
theorem mhYL_clear : e_mh YL_clear 4 := ⟨e_in_6 42 rfl rfl, e_in_1 0 rfl rfl, by decide, rfl, ⟨by decide +kernel, by decide +kernel, by decide +kernel⟩, by decide, e_in_6 41 rfl rfl⟩
def YL_richest : e_Y := (yL_richest, cL_richest, 4, some .int, RL, [(0, 9, 12, 13)])
theorem mhYL_richest : e_mh YL_richest 3 := ⟨e_in_6 50 rfl rfl, e_in_1 0 rfl rfl, by decide, rfl, ⟨by decide +kernel, by decide +kernel, by decide +kernel⟩, by decide, e_in_6 49 rfl rfl⟩
def YL_back : e_Y := (yL_back, cL_back, 4, some .int, RL, [(0, 9, 12, 31)])
theorem mhYL_back : e_mh YL_back 3 := ⟨e_in_6 57 rfl rfl, e_in_1 0 rfl rfl, by decide, rfl, ⟨by decide +kernel, by decide +kernel, by decide +kernel⟩, by decide, e_in_6 56 rfl rfl⟩
def YL_loses : e_Y := (yL_loses, cL_loses, 4, some .int, RL, [(0, 9, 12, 13)])
theorem mhYL_loses : e_mh YL_loses 3 := ⟨e_in_6 64 rfl rfl, e_in_1 0 rfl rfl, by decide, rfl, ⟨by decide +kernel, by decide +kernel, by decide +kernel⟩, by decide, e_in_6 63 rfl rfl⟩
def YL_year : e_Y := (yL_year, cL_year, 8, some .int, RL, [(0, 16, 19, 13)])
theorem mhYL_year : e_mh YL_year 7 := ⟨e_in_6 71 rfl rfl, e_in_1 0 rfl rfl, by decide, rfl, ⟨by decide +kernel, by decide +kernel, by decide +kernel⟩, by decide, e_in_6 70 rfl rfl⟩
def YL_span : e_Y := (yL_span, cL_span, 10, some .int, RL, [(0, 20, 23, 13)])
theorem mhYL_span : e_mh YL_span 9 := ⟨e_in_6 99 rfl rfl, e_in_1 0 rfl rfl, by decide, rfl, ⟨by decide +kernel, by decide +kernel, by decide +kernel⟩, by decide, e_in_6 98 rfl rfl⟩
theorem ca_0 : Cond.castable (e_xn 0) "java/util/NoSuchElementException" ∈ e_nw := by decide +kernel
theorem ca_1 : Cond.castable (e_xn 1) "java/lang/IllegalArgumentException" ∈ e_nw := by decide +kernel
theorem kx_13 : Cond.classLink RL 13 "java/lang/IllegalArgumentException" ∈ e_gw := e_in_3 111 rfl rfl
theorem kx_31 : Cond.classLink RL 31 "java/util/NoSuchElementException" ∈ e_gw := e_in_5 41 rfl rfl
theorem hl_L_town {X : e_X} {d gn : Nat} {M M1 : e_M} {p0 : Int} {v : Int} (hE : e_E X d YX10_town [.inr (.inr 1), .inl p0] (557, gn, e_RF, M) (.inl (some (.inl v)), (557, gn, e_RF, M1))) : e_E X (d + 1) YL_town [.inr (.inr 1), .inl p0, .inr (.inr 557)] (557, gn, e_RF, M) (.inl (some (.inl 0)), (557, gn, e_RF, e_up M1 557 0 v)) := by
  show e_G X (d + 1) YL_town 0 [some (.inr (.inr 1)), some (.inl p0), some (.inr (.inr 557)), none] [] (557, gn, e_RF, M) _
  refine e_r_aload_n (pc' := 1) (by decide) dL_town_0 rfl rfl rfl ?_
  refine e_r_iconst (pc' := 2) dL_town_1 rfl (by decide) ?_
  refine e_r_aload_n (pc' := 3) (by decide) dL_town_2 rfl rfl rfl ?_
  refine e_r_iload_n (pc' := 4) dL_town_3 rfl rfl rfl ?_
  refine e_r_callV (a := 1) (av := [.inl p0]) (st := [.inl 0, .inr (.inr 557)]) mqYX10_town ml_RL_7 cl_10 rfl (Nat.le_of_ble_eq_true rfl) (by simp [e_cat]) rfl rfl rfl dL_town_4 (pc' := 7) rfl hE ⟨Nat.le_refl _, Nat.le_refl _⟩ ⟨Nat.le_refl _, Nat.le_refl _⟩ ?_
  refine e_r_i2l (pc' := 8) dL_town_7 rfl ?_
  refine e_r_last (j9 := 0) (pc' := 9) rfl (Nat.le_of_ble_eq_true rfl) (by decide) (by decide) rfl dL_town_8 rfl ?_
  refine e_r_goto (pc' := 15) dL_town_9 rfl ?_
  refine e_r_iconst (pc' := 16) dL_town_15 rfl (by decide) ?_
  exact e_r_iret (ty := .int) rfl (e_nI _) dL_town_16 rfl
theorem hx_L_town_1 {X : e_X} {d gn : Nat} {M M1 : e_M} {p0 : Int} (hE : e_E X d YX10_town [.inr (.inr 1), .inl p0] (557, gn, e_RF, M) (.inr 1, (557, gn + 1, e_RF, M1))) : e_E X (d + 1) YL_town [.inr (.inr 1), .inl p0, .inr (.inr 557)] (557, gn, e_RF, M) (.inl (some (.inl 1)), (557, gn + 1, e_RF, M1)) := by
  show e_G X (d + 1) YL_town 0 [some (.inr (.inr 1)), some (.inl p0), some (.inr (.inr 557)), none] [] (557, gn, e_RF, M) _
  refine e_r_aload_n (pc' := 1) (by decide) dL_town_0 rfl rfl rfl ?_
  refine e_r_iconst (pc' := 2) dL_town_1 rfl (by decide) ?_
  refine e_r_aload_n (pc' := 3) (by decide) dL_town_2 rfl rfl rfl ?_
  refine e_r_iload_n (pc' := 4) dL_town_3 rfl rfl rfl ?_
  refine e_r_callVc (a := 1) (av := [.inl p0]) (st := [.inl 0, .inr (.inr 557)]) mqYX10_town ml_RL_7 cl_10 rfl (Nat.le_of_ble_eq_true rfl) (by simp [e_cat]) rfl rfl rfl dL_town_4 (pre := []) (x := (0, 9, 12, 13)) (suf := []) rfl (fun y hy => by cases hy) ⟨by decide, by decide⟩ (by decide) kx_13 ca_1 (i := 3) (loc' := [some (.inr (.inr 1)), some (.inl p0), some (.inr (.inr 557)), none]) (pc' := 13) (Or.inr ⟨3, dL_town_12, rfl, rfl⟩) rfl rfl rfl hE ⟨Nat.le_refl _, Nat.le_succ _⟩ ⟨Nat.le_refl _, Nat.le_refl _⟩ ?_
  refine e_r_iconst (pc' := 14) dL_town_13 rfl (by decide) ?_
  exact e_r_iret (ty := .int) rfl (e_nI _) dL_town_14 rfl
theorem hl_L_law {X : e_X} {d gn : Nat} {M M1 : e_M} {p0 : Int} {v : Int} (hE : e_E X d YX10_law [.inr (.inr 1), .inl p0] (557, gn, e_RF, M) (.inl (some (.inl v)), (557, gn, e_RF, M1))) : e_E X (d + 1) YL_law [.inr (.inr 1), .inl p0, .inr (.inr 557)] (557, gn, e_RF, M) (.inl (some (.inl 0)), (557, gn, e_RF, e_up M1 557 0 v)) := by
  show e_G X (d + 1) YL_law 0 [some (.inr (.inr 1)), some (.inl p0), some (.inr (.inr 557)), none] [] (557, gn, e_RF, M) _
  refine e_r_aload_n (pc' := 1) (by decide) dL_law_0 rfl rfl rfl ?_
  refine e_r_iconst (pc' := 2) dL_law_1 rfl (by decide) ?_
  refine e_r_aload_n (pc' := 3) (by decide) dL_law_2 rfl rfl rfl ?_
  refine e_r_iload_n (pc' := 4) dL_law_3 rfl rfl rfl ?_
  refine e_r_callV (a := 1) (av := [.inl p0]) (st := [.inl 0, .inr (.inr 557)]) mqYX10_law ml_RL_15 cl_10 rfl (Nat.le_of_ble_eq_true rfl) (by simp [e_cat]) rfl rfl rfl dL_law_4 (pc' := 7) rfl hE ⟨Nat.le_refl _, Nat.le_refl _⟩ ⟨Nat.le_refl _, Nat.le_refl _⟩ ?_
  refine e_r_i2l (pc' := 8) dL_law_7 rfl ?_
  refine e_r_last (j9 := 0) (pc' := 9) rfl (Nat.le_of_ble_eq_true rfl) (by decide) (by decide) rfl dL_law_8 rfl ?_
  refine e_r_goto (pc' := 15) dL_law_9 rfl ?_
  refine e_r_iconst (pc' := 16) dL_law_15 rfl (by decide) ?_
  exact e_r_iret (ty := .int) rfl (e_nI _) dL_law_16 rfl
theorem hx_L_law_1 {X : e_X} {d gn : Nat} {M M1 : e_M} {p0 : Int} (hE : e_E X d YX10_law [.inr (.inr 1), .inl p0] (557, gn, e_RF, M) (.inr 1, (557, gn + 1, e_RF, M1))) : e_E X (d + 1) YL_law [.inr (.inr 1), .inl p0, .inr (.inr 557)] (557, gn, e_RF, M) (.inl (some (.inl 1)), (557, gn + 1, e_RF, M1)) := by
  show e_G X (d + 1) YL_law 0 [some (.inr (.inr 1)), some (.inl p0), some (.inr (.inr 557)), none] [] (557, gn, e_RF, M) _
  refine e_r_aload_n (pc' := 1) (by decide) dL_law_0 rfl rfl rfl ?_
  refine e_r_iconst (pc' := 2) dL_law_1 rfl (by decide) ?_
  refine e_r_aload_n (pc' := 3) (by decide) dL_law_2 rfl rfl rfl ?_
  refine e_r_iload_n (pc' := 4) dL_law_3 rfl rfl rfl ?_
  refine e_r_callVc (a := 1) (av := [.inl p0]) (st := [.inl 0, .inr (.inr 557)]) mqYX10_law ml_RL_15 cl_10 rfl (Nat.le_of_ble_eq_true rfl) (by simp [e_cat]) rfl rfl rfl dL_law_4 (pre := []) (x := (0, 9, 12, 13)) (suf := []) rfl (fun y hy => by cases hy) ⟨by decide, by decide⟩ (by decide) kx_13 ca_1 (i := 3) (loc' := [some (.inr (.inr 1)), some (.inl p0), some (.inr (.inr 557)), none]) (pc' := 13) (Or.inr ⟨3, dL_law_12, rfl, rfl⟩) rfl rfl rfl hE ⟨Nat.le_refl _, Nat.le_succ _⟩ ⟨Nat.le_refl _, Nat.le_refl _⟩ ?_
  refine e_r_iconst (pc' := 14) dL_law_13 rfl (by decide) ?_
  exact e_r_iret (ty := .int) rfl (e_nI _) dL_law_14 rfl
theorem hl_L_work {X : e_X} {d gn : Nat} {M M1 : e_M} {p0 : Int} {v : Int} (hE : e_E X d YX10_work [.inr (.inr 1), .inl p0] (557, gn, e_RF, M) (.inl (some (.inl v)), (557, gn, e_RF, M1))) : e_E X (d + 1) YL_work [.inr (.inr 1), .inl p0, .inr (.inr 557)] (557, gn, e_RF, M) (.inl (some (.inl 0)), (557, gn, e_RF, e_up M1 557 0 v)) := by
  show e_G X (d + 1) YL_work 0 [some (.inr (.inr 1)), some (.inl p0), some (.inr (.inr 557)), none] [] (557, gn, e_RF, M) _
  refine e_r_aload_n (pc' := 1) (by decide) dL_work_0 rfl rfl rfl ?_
  refine e_r_iconst (pc' := 2) dL_work_1 rfl (by decide) ?_
  refine e_r_aload_n (pc' := 3) (by decide) dL_work_2 rfl rfl rfl ?_
  refine e_r_iload_n (pc' := 4) dL_work_3 rfl rfl rfl ?_
  refine e_r_callV (a := 1) (av := [.inl p0]) (st := [.inl 0, .inr (.inr 557)]) mqYX10_work ml_RL_18 cl_10 rfl (Nat.le_of_ble_eq_true rfl) (by simp [e_cat]) rfl rfl rfl dL_work_4 (pc' := 7) rfl hE ⟨Nat.le_refl _, Nat.le_refl _⟩ ⟨Nat.le_refl _, Nat.le_refl _⟩ ?_
  refine e_r_i2l (pc' := 8) dL_work_7 rfl ?_
  refine e_r_last (j9 := 0) (pc' := 9) rfl (Nat.le_of_ble_eq_true rfl) (by decide) (by decide) rfl dL_work_8 rfl ?_
  refine e_r_goto (pc' := 15) dL_work_9 rfl ?_
  refine e_r_iconst (pc' := 16) dL_work_15 rfl (by decide) ?_
  exact e_r_iret (ty := .int) rfl (e_nI _) dL_work_16 rfl
theorem hx_L_work_1 {X : e_X} {d gn : Nat} {M M1 : e_M} {p0 : Int} (hE : e_E X d YX10_work [.inr (.inr 1), .inl p0] (557, gn, e_RF, M) (.inr 1, (557, gn + 1, e_RF, M1))) : e_E X (d + 1) YL_work [.inr (.inr 1), .inl p0, .inr (.inr 557)] (557, gn, e_RF, M) (.inl (some (.inl 1)), (557, gn + 1, e_RF, M1)) := by
  show e_G X (d + 1) YL_work 0 [some (.inr (.inr 1)), some (.inl p0), some (.inr (.inr 557)), none] [] (557, gn, e_RF, M) _
  refine e_r_aload_n (pc' := 1) (by decide) dL_work_0 rfl rfl rfl ?_
  refine e_r_iconst (pc' := 2) dL_work_1 rfl (by decide) ?_
  refine e_r_aload_n (pc' := 3) (by decide) dL_work_2 rfl rfl rfl ?_
  refine e_r_iload_n (pc' := 4) dL_work_3 rfl rfl rfl ?_
  refine e_r_callVc (a := 1) (av := [.inl p0]) (st := [.inl 0, .inr (.inr 557)]) mqYX10_work ml_RL_18 cl_10 rfl (Nat.le_of_ble_eq_true rfl) (by simp [e_cat]) rfl rfl rfl dL_work_4 (pre := []) (x := (0, 9, 12, 13)) (suf := []) rfl (fun y hy => by cases hy) ⟨by decide, by decide⟩ (by decide) kx_13 ca_1 (i := 3) (loc' := [some (.inr (.inr 1)), some (.inl p0), some (.inr (.inr 557)), none]) (pc' := 13) (Or.inr ⟨3, dL_work_12, rfl, rfl⟩) rfl rfl rfl hE ⟨Nat.le_refl _, Nat.le_succ _⟩ ⟨Nat.le_refl _, Nat.le_refl _⟩ ?_
  refine e_r_iconst (pc' := 14) dL_work_13 rfl (by decide) ?_
  exact e_r_iret (ty := .int) rfl (e_nI _) dL_work_14 rfl
theorem hl_L_book {X : e_X} {d gn : Nat} {M M1 : e_M} {p0 : Int} {v : Int} (hE : e_E X d YX10_book [.inr (.inr 1), .inl p0] (557, gn, e_RF, M) (.inl (some (.inl v)), (557, gn, e_RF, M1))) : e_E X (d + 1) YL_book [.inr (.inr 1), .inl p0, .inr (.inr 557)] (557, gn, e_RF, M) (.inl (some (.inl 0)), (557, gn, e_RF, e_up M1 557 0 v)) := by
  show e_G X (d + 1) YL_book 0 [some (.inr (.inr 1)), some (.inl p0), some (.inr (.inr 557)), none] [] (557, gn, e_RF, M) _
  refine e_r_aload_n (pc' := 1) (by decide) dL_book_0 rfl rfl rfl ?_
  refine e_r_iconst (pc' := 2) dL_book_1 rfl (by decide) ?_
  refine e_r_aload_n (pc' := 3) (by decide) dL_book_2 rfl rfl rfl ?_
  refine e_r_iload_n (pc' := 4) dL_book_3 rfl rfl rfl ?_
  refine e_r_callV (a := 1) (av := [.inl p0]) (st := [.inl 0, .inr (.inr 557)]) mqYX10_book ml_RL_21 cl_10 rfl (Nat.le_of_ble_eq_true rfl) (by simp [e_cat]) rfl rfl rfl dL_book_4 (pc' := 7) rfl hE ⟨Nat.le_refl _, Nat.le_refl _⟩ ⟨Nat.le_refl _, Nat.le_refl _⟩ ?_
  refine e_r_i2l (pc' := 8) dL_book_7 rfl ?_
  refine e_r_last (j9 := 0) (pc' := 9) rfl (Nat.le_of_ble_eq_true rfl) (by decide) (by decide) rfl dL_book_8 rfl ?_
  refine e_r_goto (pc' := 15) dL_book_9 rfl ?_
  refine e_r_iconst (pc' := 16) dL_book_15 rfl (by decide) ?_
  exact e_r_iret (ty := .int) rfl (e_nI _) dL_book_16 rfl
theorem hx_L_book_1 {X : e_X} {d gn : Nat} {M M1 : e_M} {p0 : Int} (hE : e_E X d YX10_book [.inr (.inr 1), .inl p0] (557, gn, e_RF, M) (.inr 1, (557, gn + 1, e_RF, M1))) : e_E X (d + 1) YL_book [.inr (.inr 1), .inl p0, .inr (.inr 557)] (557, gn, e_RF, M) (.inl (some (.inl 1)), (557, gn + 1, e_RF, M1)) := by
  show e_G X (d + 1) YL_book 0 [some (.inr (.inr 1)), some (.inl p0), some (.inr (.inr 557)), none] [] (557, gn, e_RF, M) _
  refine e_r_aload_n (pc' := 1) (by decide) dL_book_0 rfl rfl rfl ?_
  refine e_r_iconst (pc' := 2) dL_book_1 rfl (by decide) ?_
  refine e_r_aload_n (pc' := 3) (by decide) dL_book_2 rfl rfl rfl ?_
  refine e_r_iload_n (pc' := 4) dL_book_3 rfl rfl rfl ?_
  refine e_r_callVc (a := 1) (av := [.inl p0]) (st := [.inl 0, .inr (.inr 557)]) mqYX10_book ml_RL_21 cl_10 rfl (Nat.le_of_ble_eq_true rfl) (by simp [e_cat]) rfl rfl rfl dL_book_4 (pre := []) (x := (0, 9, 12, 13)) (suf := []) rfl (fun y hy => by cases hy) ⟨by decide, by decide⟩ (by decide) kx_13 ca_1 (i := 3) (loc' := [some (.inr (.inr 1)), some (.inl p0), some (.inr (.inr 557)), none]) (pc' := 13) (Or.inr ⟨3, dL_book_12, rfl, rfl⟩) rfl rfl rfl hE ⟨Nat.le_refl _, Nat.le_succ _⟩ ⟨Nat.le_refl _, Nat.le_refl _⟩ ?_
  refine e_r_iconst (pc' := 14) dL_book_13 rfl (by decide) ?_
  exact e_r_iret (ty := .int) rfl (e_nI _) dL_book_14 rfl
theorem hl_L_told {X : e_X} {d gn : Nat} {M M1 : e_M} {p0 : Int} {v : Int} (hE : e_E X d YX10_told [.inr (.inr 1), .inl p0] (557, gn, e_RF, M) (.inl (some (.inl v)), (557, gn, e_RF, M1))) : e_E X (d + 1) YL_told [.inr (.inr 1), .inl p0, .inr (.inr 557)] (557, gn, e_RF, M) (.inl (some (.inl 0)), (557, gn, e_RF, e_up M1 557 0 v)) := by
  show e_G X (d + 1) YL_told 0 [some (.inr (.inr 1)), some (.inl p0), some (.inr (.inr 557)), none] [] (557, gn, e_RF, M) _
  refine e_r_aload_n (pc' := 1) (by decide) dL_told_0 rfl rfl rfl ?_
  refine e_r_iconst (pc' := 2) dL_told_1 rfl (by decide) ?_
  refine e_r_aload_n (pc' := 3) (by decide) dL_told_2 rfl rfl rfl ?_
  refine e_r_iload_n (pc' := 4) dL_told_3 rfl rfl rfl ?_
  refine e_r_callV (a := 1) (av := [.inl p0]) (st := [.inl 0, .inr (.inr 557)]) mqYX10_told ml_RL_24 cl_10 rfl (Nat.le_of_ble_eq_true rfl) (by simp [e_cat]) rfl rfl rfl dL_told_4 (pc' := 7) rfl hE ⟨Nat.le_refl _, Nat.le_refl _⟩ ⟨Nat.le_refl _, Nat.le_refl _⟩ ?_
  refine e_r_i2l (pc' := 8) dL_told_7 rfl ?_
  refine e_r_last (j9 := 0) (pc' := 9) rfl (Nat.le_of_ble_eq_true rfl) (by decide) (by decide) rfl dL_told_8 rfl ?_
  refine e_r_goto (pc' := 15) dL_told_9 rfl ?_
  refine e_r_iconst (pc' := 16) dL_told_15 rfl (by decide) ?_
  exact e_r_iret (ty := .int) rfl (e_nI _) dL_told_16 rfl
theorem hx_L_told_1 {X : e_X} {d gn : Nat} {M M1 : e_M} {p0 : Int} (hE : e_E X d YX10_told [.inr (.inr 1), .inl p0] (557, gn, e_RF, M) (.inr 1, (557, gn + 1, e_RF, M1))) : e_E X (d + 1) YL_told [.inr (.inr 1), .inl p0, .inr (.inr 557)] (557, gn, e_RF, M) (.inl (some (.inl 1)), (557, gn + 1, e_RF, M1)) := by
  show e_G X (d + 1) YL_told 0 [some (.inr (.inr 1)), some (.inl p0), some (.inr (.inr 557)), none] [] (557, gn, e_RF, M) _
  refine e_r_aload_n (pc' := 1) (by decide) dL_told_0 rfl rfl rfl ?_
  refine e_r_iconst (pc' := 2) dL_told_1 rfl (by decide) ?_
  refine e_r_aload_n (pc' := 3) (by decide) dL_told_2 rfl rfl rfl ?_
  refine e_r_iload_n (pc' := 4) dL_told_3 rfl rfl rfl ?_
  refine e_r_callVc (a := 1) (av := [.inl p0]) (st := [.inl 0, .inr (.inr 557)]) mqYX10_told ml_RL_24 cl_10 rfl (Nat.le_of_ble_eq_true rfl) (by simp [e_cat]) rfl rfl rfl dL_told_4 (pre := []) (x := (0, 9, 12, 13)) (suf := []) rfl (fun y hy => by cases hy) ⟨by decide, by decide⟩ (by decide) kx_13 ca_1 (i := 3) (loc' := [some (.inr (.inr 1)), some (.inl p0), some (.inr (.inr 557)), none]) (pc' := 13) (Or.inr ⟨3, dL_told_12, rfl, rfl⟩) rfl rfl rfl hE ⟨Nat.le_refl _, Nat.le_succ _⟩ ⟨Nat.le_refl _, Nat.le_refl _⟩ ?_
  refine e_r_iconst (pc' := 14) dL_told_13 rfl (by decide) ?_
  exact e_r_iret (ty := .int) rfl (e_nI _) dL_told_14 rfl
theorem hl_L_person {X : e_X} {d gn : Nat} {M M1 : e_M} {p0 p1 : Int} {v : Int} (hE : e_E X d YX10_person [.inr (.inr 1), .inl p0, .inl p1] (557, gn, e_RF, M) (.inl (some (.inl v)), (557, gn, e_RF, M1))) : e_E X (d + 1) YL_person [.inr (.inr 1), .inl p0, .inl p1, .inr (.inr 557)] (557, gn, e_RF, M) (.inl (some (.inl 0)), (557, gn, e_RF, e_up M1 557 0 v)) := by
  show e_G X (d + 1) YL_person 0 [some (.inr (.inr 1)), some (.inl p0), some (.inl p1), some (.inr (.inr 557)), none] [] (557, gn, e_RF, M) _
  refine e_r_aload_n (pc' := 1) (by decide) dL_person_0 rfl rfl rfl ?_
  refine e_r_iconst (pc' := 2) dL_person_1 rfl (by decide) ?_
  refine e_r_aload_n (pc' := 3) (by decide) dL_person_2 rfl rfl rfl ?_
  refine e_r_iload_n (pc' := 4) dL_person_3 rfl rfl rfl ?_
  refine e_r_iload_n (pc' := 5) dL_person_4 rfl rfl rfl ?_
  refine e_r_callV (a := 1) (av := [.inl p0, .inl p1]) (st := [.inl 0, .inr (.inr 557)]) mqYX10_person ml_RL_27 cl_10 rfl (Nat.le_of_ble_eq_true rfl) (by simp [e_cat]) rfl rfl rfl dL_person_5 (pc' := 8) rfl hE ⟨Nat.le_refl _, Nat.le_refl _⟩ ⟨Nat.le_refl _, Nat.le_refl _⟩ ?_
  refine e_r_i2l (pc' := 9) dL_person_8 rfl ?_
  refine e_r_last (j9 := 0) (pc' := 10) rfl (Nat.le_of_ble_eq_true rfl) (by decide) (by decide) rfl dL_person_9 rfl ?_
  refine e_r_goto (pc' := 21) dL_person_10 rfl ?_
  refine e_r_iconst (pc' := 22) dL_person_21 rfl (by decide) ?_
  exact e_r_iret (ty := .int) rfl (e_nI _) dL_person_22 rfl
theorem hx_L_person_0 {X : e_X} {d gn : Nat} {M M1 : e_M} {p0 p1 : Int} (hE : e_E X d YX10_person [.inr (.inr 1), .inl p0, .inl p1] (557, gn, e_RF, M) (.inr 0, (557, gn + 1, e_RF, M1))) : e_E X (d + 1) YL_person [.inr (.inr 1), .inl p0, .inl p1, .inr (.inr 557)] (557, gn, e_RF, M) (.inl (some (.inl 1)), (557, gn + 1, e_RF, M1)) := by
  show e_G X (d + 1) YL_person 0 [some (.inr (.inr 1)), some (.inl p0), some (.inl p1), some (.inr (.inr 557)), none] [] (557, gn, e_RF, M) _
  refine e_r_aload_n (pc' := 1) (by decide) dL_person_0 rfl rfl rfl ?_
  refine e_r_iconst (pc' := 2) dL_person_1 rfl (by decide) ?_
  refine e_r_aload_n (pc' := 3) (by decide) dL_person_2 rfl rfl rfl ?_
  refine e_r_iload_n (pc' := 4) dL_person_3 rfl rfl rfl ?_
  refine e_r_iload_n (pc' := 5) dL_person_4 rfl rfl rfl ?_
  refine e_r_callVc (a := 1) (av := [.inl p0, .inl p1]) (st := [.inl 0, .inr (.inr 557)]) mqYX10_person ml_RL_27 cl_10 rfl (Nat.le_of_ble_eq_true rfl) (by simp [e_cat]) rfl rfl rfl dL_person_5 (pre := []) (x := (0, 10, 13, 31)) (suf := [(0, 10, 17, 13)]) rfl (fun y hy => by cases hy) ⟨by decide, by decide⟩ (by decide) kx_31 ca_0 (i := 4) (loc' := [some (.inr (.inr 1)), some (.inl p0), some (.inl p1), some (.inr (.inr 557)), none]) (pc' := 15) (Or.inl ⟨dL_person_13, rfl⟩) rfl rfl rfl hE ⟨Nat.le_refl _, Nat.le_succ _⟩ ⟨Nat.le_refl _, Nat.le_refl _⟩ ?_
  refine e_r_iconst (pc' := 16) dL_person_15 rfl (by decide) ?_
  exact e_r_iret (ty := .int) rfl (e_nI _) dL_person_16 rfl
theorem hx_L_person_1 {X : e_X} {d gn : Nat} {M M1 : e_M} {p0 p1 : Int} (hE : e_E X d YX10_person [.inr (.inr 1), .inl p0, .inl p1] (557, gn, e_RF, M) (.inr 1, (557, gn + 1, e_RF, M1))) : e_E X (d + 1) YL_person [.inr (.inr 1), .inl p0, .inl p1, .inr (.inr 557)] (557, gn, e_RF, M) (.inl (some (.inl 2)), (557, gn + 1, e_RF, M1)) := by
  show e_G X (d + 1) YL_person 0 [some (.inr (.inr 1)), some (.inl p0), some (.inl p1), some (.inr (.inr 557)), none] [] (557, gn, e_RF, M) _
  refine e_r_aload_n (pc' := 1) (by decide) dL_person_0 rfl rfl rfl ?_
  refine e_r_iconst (pc' := 2) dL_person_1 rfl (by decide) ?_
  refine e_r_aload_n (pc' := 3) (by decide) dL_person_2 rfl rfl rfl ?_
  refine e_r_iload_n (pc' := 4) dL_person_3 rfl rfl rfl ?_
  refine e_r_iload_n (pc' := 5) dL_person_4 rfl rfl rfl ?_
  refine e_r_callVc (a := 1) (av := [.inl p0, .inl p1]) (st := [.inl 0, .inr (.inr 557)]) mqYX10_person ml_RL_27 cl_10 rfl (Nat.le_of_ble_eq_true rfl) (by simp [e_cat]) rfl rfl rfl dL_person_5 (pre := [(0, 10, 13, 31)]) (x := (0, 10, 17, 13)) (suf := []) rfl (fun y hy => by rcases List.mem_singleton.mp hy with rfl; exact ⟨by decide, _, kx_31, rfl, rfl⟩) ⟨by decide, by decide⟩ (by decide) kx_13 ca_1 (i := 4) (loc' := [some (.inr (.inr 1)), some (.inl p0), some (.inl p1), some (.inr (.inr 557)), none]) (pc' := 19) (Or.inl ⟨dL_person_17, rfl⟩) rfl rfl rfl hE ⟨Nat.le_refl _, Nat.le_succ _⟩ ⟨Nat.le_refl _, Nat.le_refl _⟩ ?_
  refine e_r_iconst (pc' := 20) dL_person_19 rfl (by decide) ?_
  exact e_r_iret (ty := .int) rfl (e_nI _) dL_person_20 rfl
theorem hl_L_duty {X : e_X} {d gn : Nat} {M M1 : e_M} {p0 p1 : Int} {v : Int} (hE : e_E X d YX10_duty [.inr (.inr 1), .inl p0, .inl p1] (557, gn, e_RF, M) (.inl (some (.inl v)), (557, gn, e_RF, M1))) : e_E X (d + 1) YL_duty [.inr (.inr 1), .inl p0, .inl p1, .inr (.inr 557)] (557, gn, e_RF, M) (.inl (some (.inl 0)), (557, gn, e_RF, e_up M1 557 0 v)) := by
  show e_G X (d + 1) YL_duty 0 [some (.inr (.inr 1)), some (.inl p0), some (.inl p1), some (.inr (.inr 557)), none] [] (557, gn, e_RF, M) _
  refine e_r_aload_n (pc' := 1) (by decide) dL_duty_0 rfl rfl rfl ?_
  refine e_r_iconst (pc' := 2) dL_duty_1 rfl (by decide) ?_
  refine e_r_aload_n (pc' := 3) (by decide) dL_duty_2 rfl rfl rfl ?_
  refine e_r_iload_n (pc' := 4) dL_duty_3 rfl rfl rfl ?_
  refine e_r_iload_n (pc' := 5) dL_duty_4 rfl rfl rfl ?_
  refine e_r_callV (a := 1) (av := [.inl p0, .inl p1]) (st := [.inl 0, .inr (.inr 557)]) mqYX10_duty ml_RL_33 cl_10 rfl (Nat.le_of_ble_eq_true rfl) (by simp [e_cat]) rfl rfl rfl dL_duty_5 (pc' := 8) rfl hE ⟨Nat.le_refl _, Nat.le_refl _⟩ ⟨Nat.le_refl _, Nat.le_refl _⟩ ?_
  refine e_r_i2l (pc' := 9) dL_duty_8 rfl ?_
  refine e_r_last (j9 := 0) (pc' := 10) rfl (Nat.le_of_ble_eq_true rfl) (by decide) (by decide) rfl dL_duty_9 rfl ?_
  refine e_r_goto (pc' := 21) dL_duty_10 rfl ?_
  refine e_r_iconst (pc' := 22) dL_duty_21 rfl (by decide) ?_
  exact e_r_iret (ty := .int) rfl (e_nI _) dL_duty_22 rfl
theorem hx_L_duty_0 {X : e_X} {d gn : Nat} {M M1 : e_M} {p0 p1 : Int} (hE : e_E X d YX10_duty [.inr (.inr 1), .inl p0, .inl p1] (557, gn, e_RF, M) (.inr 0, (557, gn + 1, e_RF, M1))) : e_E X (d + 1) YL_duty [.inr (.inr 1), .inl p0, .inl p1, .inr (.inr 557)] (557, gn, e_RF, M) (.inl (some (.inl 1)), (557, gn + 1, e_RF, M1)) := by
  show e_G X (d + 1) YL_duty 0 [some (.inr (.inr 1)), some (.inl p0), some (.inl p1), some (.inr (.inr 557)), none] [] (557, gn, e_RF, M) _
  refine e_r_aload_n (pc' := 1) (by decide) dL_duty_0 rfl rfl rfl ?_
  refine e_r_iconst (pc' := 2) dL_duty_1 rfl (by decide) ?_
  refine e_r_aload_n (pc' := 3) (by decide) dL_duty_2 rfl rfl rfl ?_
  refine e_r_iload_n (pc' := 4) dL_duty_3 rfl rfl rfl ?_
  refine e_r_iload_n (pc' := 5) dL_duty_4 rfl rfl rfl ?_
  refine e_r_callVc (a := 1) (av := [.inl p0, .inl p1]) (st := [.inl 0, .inr (.inr 557)]) mqYX10_duty ml_RL_33 cl_10 rfl (Nat.le_of_ble_eq_true rfl) (by simp [e_cat]) rfl rfl rfl dL_duty_5 (pre := []) (x := (0, 10, 13, 31)) (suf := [(0, 10, 17, 13)]) rfl (fun y hy => by cases hy) ⟨by decide, by decide⟩ (by decide) kx_31 ca_0 (i := 4) (loc' := [some (.inr (.inr 1)), some (.inl p0), some (.inl p1), some (.inr (.inr 557)), none]) (pc' := 15) (Or.inl ⟨dL_duty_13, rfl⟩) rfl rfl rfl hE ⟨Nat.le_refl _, Nat.le_succ _⟩ ⟨Nat.le_refl _, Nat.le_refl _⟩ ?_
  refine e_r_iconst (pc' := 16) dL_duty_15 rfl (by decide) ?_
  exact e_r_iret (ty := .int) rfl (e_nI _) dL_duty_16 rfl
theorem hx_L_duty_1 {X : e_X} {d gn : Nat} {M M1 : e_M} {p0 p1 : Int} (hE : e_E X d YX10_duty [.inr (.inr 1), .inl p0, .inl p1] (557, gn, e_RF, M) (.inr 1, (557, gn + 1, e_RF, M1))) : e_E X (d + 1) YL_duty [.inr (.inr 1), .inl p0, .inl p1, .inr (.inr 557)] (557, gn, e_RF, M) (.inl (some (.inl 2)), (557, gn + 1, e_RF, M1)) := by
  show e_G X (d + 1) YL_duty 0 [some (.inr (.inr 1)), some (.inl p0), some (.inl p1), some (.inr (.inr 557)), none] [] (557, gn, e_RF, M) _
  refine e_r_aload_n (pc' := 1) (by decide) dL_duty_0 rfl rfl rfl ?_
  refine e_r_iconst (pc' := 2) dL_duty_1 rfl (by decide) ?_
  refine e_r_aload_n (pc' := 3) (by decide) dL_duty_2 rfl rfl rfl ?_
  refine e_r_iload_n (pc' := 4) dL_duty_3 rfl rfl rfl ?_
  refine e_r_iload_n (pc' := 5) dL_duty_4 rfl rfl rfl ?_
  refine e_r_callVc (a := 1) (av := [.inl p0, .inl p1]) (st := [.inl 0, .inr (.inr 557)]) mqYX10_duty ml_RL_33 cl_10 rfl (Nat.le_of_ble_eq_true rfl) (by simp [e_cat]) rfl rfl rfl dL_duty_5 (pre := [(0, 10, 13, 31)]) (x := (0, 10, 17, 13)) (suf := []) rfl (fun y hy => by rcases List.mem_singleton.mp hy with rfl; exact ⟨by decide, _, kx_31, rfl, rfl⟩) ⟨by decide, by decide⟩ (by decide) kx_13 ca_1 (i := 4) (loc' := [some (.inr (.inr 1)), some (.inl p0), some (.inl p1), some (.inr (.inr 557)), none]) (pc' := 19) (Or.inl ⟨dL_duty_17, rfl⟩) rfl rfl rfl hE ⟨Nat.le_refl _, Nat.le_succ _⟩ ⟨Nat.le_refl _, Nat.le_refl _⟩ ?_
  refine e_r_iconst (pc' := 20) dL_duty_19 rfl (by decide) ?_
  exact e_r_iret (ty := .int) rfl (e_nI _) dL_duty_20 rfl
theorem hl_L_task {X : e_X} {d gn : Nat} {M M1 : e_M} {p0 p1 : Int} {v : Int} (hE : e_E X d YX10_task [.inr (.inr 1), .inl p0, .inl p1] (557, gn, e_RF, M) (.inl (some (.inl v)), (557, gn, e_RF, M1))) : e_E X (d + 1) YL_task [.inr (.inr 1), .inl p0, .inl p1, .inr (.inr 557)] (557, gn, e_RF, M) (.inl (some (.inl 0)), (557, gn, e_RF, e_up M1 557 0 v)) := by
  show e_G X (d + 1) YL_task 0 [some (.inr (.inr 1)), some (.inl p0), some (.inl p1), some (.inr (.inr 557)), none] [] (557, gn, e_RF, M) _
  refine e_r_aload_n (pc' := 1) (by decide) dL_task_0 rfl rfl rfl ?_
  refine e_r_iconst (pc' := 2) dL_task_1 rfl (by decide) ?_
  refine e_r_aload_n (pc' := 3) (by decide) dL_task_2 rfl rfl rfl ?_
  refine e_r_iload_n (pc' := 4) dL_task_3 rfl rfl rfl ?_
  refine e_r_iload_n (pc' := 5) dL_task_4 rfl rfl rfl ?_
  refine e_r_callV (a := 1) (av := [.inl p0, .inl p1]) (st := [.inl 0, .inr (.inr 557)]) mqYX10_task ml_RL_36 cl_10 rfl (Nat.le_of_ble_eq_true rfl) (by simp [e_cat]) rfl rfl rfl dL_task_5 (pc' := 8) rfl hE ⟨Nat.le_refl _, Nat.le_refl _⟩ ⟨Nat.le_refl _, Nat.le_refl _⟩ ?_
  refine e_r_i2l (pc' := 9) dL_task_8 rfl ?_
  refine e_r_last (j9 := 0) (pc' := 10) rfl (Nat.le_of_ble_eq_true rfl) (by decide) (by decide) rfl dL_task_9 rfl ?_
  refine e_r_goto (pc' := 21) dL_task_10 rfl ?_
  refine e_r_iconst (pc' := 22) dL_task_21 rfl (by decide) ?_
  exact e_r_iret (ty := .int) rfl (e_nI _) dL_task_22 rfl
theorem hx_L_task_0 {X : e_X} {d gn : Nat} {M M1 : e_M} {p0 p1 : Int} (hE : e_E X d YX10_task [.inr (.inr 1), .inl p0, .inl p1] (557, gn, e_RF, M) (.inr 0, (557, gn + 1, e_RF, M1))) : e_E X (d + 1) YL_task [.inr (.inr 1), .inl p0, .inl p1, .inr (.inr 557)] (557, gn, e_RF, M) (.inl (some (.inl 1)), (557, gn + 1, e_RF, M1)) := by
  show e_G X (d + 1) YL_task 0 [some (.inr (.inr 1)), some (.inl p0), some (.inl p1), some (.inr (.inr 557)), none] [] (557, gn, e_RF, M) _
  refine e_r_aload_n (pc' := 1) (by decide) dL_task_0 rfl rfl rfl ?_
  refine e_r_iconst (pc' := 2) dL_task_1 rfl (by decide) ?_
  refine e_r_aload_n (pc' := 3) (by decide) dL_task_2 rfl rfl rfl ?_
  refine e_r_iload_n (pc' := 4) dL_task_3 rfl rfl rfl ?_
  refine e_r_iload_n (pc' := 5) dL_task_4 rfl rfl rfl ?_
  refine e_r_callVc (a := 1) (av := [.inl p0, .inl p1]) (st := [.inl 0, .inr (.inr 557)]) mqYX10_task ml_RL_36 cl_10 rfl (Nat.le_of_ble_eq_true rfl) (by simp [e_cat]) rfl rfl rfl dL_task_5 (pre := []) (x := (0, 10, 13, 31)) (suf := [(0, 10, 17, 13)]) rfl (fun y hy => by cases hy) ⟨by decide, by decide⟩ (by decide) kx_31 ca_0 (i := 4) (loc' := [some (.inr (.inr 1)), some (.inl p0), some (.inl p1), some (.inr (.inr 557)), none]) (pc' := 15) (Or.inl ⟨dL_task_13, rfl⟩) rfl rfl rfl hE ⟨Nat.le_refl _, Nat.le_succ _⟩ ⟨Nat.le_refl _, Nat.le_refl _⟩ ?_
  refine e_r_iconst (pc' := 16) dL_task_15 rfl (by decide) ?_
  exact e_r_iret (ty := .int) rfl (e_nI _) dL_task_16 rfl
theorem hx_L_task_1 {X : e_X} {d gn : Nat} {M M1 : e_M} {p0 p1 : Int} (hE : e_E X d YX10_task [.inr (.inr 1), .inl p0, .inl p1] (557, gn, e_RF, M) (.inr 1, (557, gn + 1, e_RF, M1))) : e_E X (d + 1) YL_task [.inr (.inr 1), .inl p0, .inl p1, .inr (.inr 557)] (557, gn, e_RF, M) (.inl (some (.inl 2)), (557, gn + 1, e_RF, M1)) := by
  show e_G X (d + 1) YL_task 0 [some (.inr (.inr 1)), some (.inl p0), some (.inl p1), some (.inr (.inr 557)), none] [] (557, gn, e_RF, M) _
  refine e_r_aload_n (pc' := 1) (by decide) dL_task_0 rfl rfl rfl ?_
  refine e_r_iconst (pc' := 2) dL_task_1 rfl (by decide) ?_
  refine e_r_aload_n (pc' := 3) (by decide) dL_task_2 rfl rfl rfl ?_
  refine e_r_iload_n (pc' := 4) dL_task_3 rfl rfl rfl ?_
  refine e_r_iload_n (pc' := 5) dL_task_4 rfl rfl rfl ?_
  refine e_r_callVc (a := 1) (av := [.inl p0, .inl p1]) (st := [.inl 0, .inr (.inr 557)]) mqYX10_task ml_RL_36 cl_10 rfl (Nat.le_of_ble_eq_true rfl) (by simp [e_cat]) rfl rfl rfl dL_task_5 (pre := [(0, 10, 13, 31)]) (x := (0, 10, 17, 13)) (suf := []) rfl (fun y hy => by rcases List.mem_singleton.mp hy with rfl; exact ⟨by decide, _, kx_31, rfl, rfl⟩) ⟨by decide, by decide⟩ (by decide) kx_13 ca_1 (i := 4) (loc' := [some (.inr (.inr 1)), some (.inl p0), some (.inl p1), some (.inr (.inr 557)), none]) (pc' := 19) (Or.inl ⟨dL_task_17, rfl⟩) rfl rfl rfl hE ⟨Nat.le_refl _, Nat.le_succ _⟩ ⟨Nat.le_refl _, Nat.le_refl _⟩ ?_
  refine e_r_iconst (pc' := 20) dL_task_19 rfl (by decide) ?_
  exact e_r_iret (ty := .int) rfl (e_nI _) dL_task_20 rfl
theorem hl_L_price {X : e_X} {d gn : Nat} {M M1 : e_M} {p0 : Int} {v : Int} (hE : e_E X d YX10_price [.inr (.inr 1), .inl p0] (557, gn, e_RF, M) (.inl (some (.inl v)), (557, gn, e_RF, M1))) : e_E X (d + 1) YL_price [.inr (.inr 1), .inl p0, .inr (.inr 557)] (557, gn, e_RF, M) (.inl (some (.inl 0)), (557, gn, e_RF, e_up M1 557 0 v)) := by
  show e_G X (d + 1) YL_price 0 [some (.inr (.inr 1)), some (.inl p0), some (.inr (.inr 557)), none] [] (557, gn, e_RF, M) _
  refine e_r_aload_n (pc' := 1) (by decide) dL_price_0 rfl rfl rfl ?_
  refine e_r_iconst (pc' := 2) dL_price_1 rfl (by decide) ?_
  refine e_r_aload_n (pc' := 3) (by decide) dL_price_2 rfl rfl rfl ?_
  refine e_r_iload_n (pc' := 4) dL_price_3 rfl rfl rfl ?_
  refine e_r_callV (a := 1) (av := [.inl p0]) (st := [.inl 0, .inr (.inr 557)]) mqYX10_price ml_RL_39 cl_10 rfl (Nat.le_of_ble_eq_true rfl) (by simp [e_cat]) rfl rfl rfl dL_price_4 (pc' := 7) rfl hE ⟨Nat.le_refl _, Nat.le_refl _⟩ ⟨Nat.le_refl _, Nat.le_refl _⟩ ?_
  refine e_r_i2l (pc' := 8) dL_price_7 rfl ?_
  refine e_r_last (j9 := 0) (pc' := 9) rfl (Nat.le_of_ble_eq_true rfl) (by decide) (by decide) rfl dL_price_8 rfl ?_
  refine e_r_goto (pc' := 15) dL_price_9 rfl ?_
  refine e_r_iconst (pc' := 16) dL_price_15 rfl (by decide) ?_
  exact e_r_iret (ty := .int) rfl (e_nI _) dL_price_16 rfl
theorem hx_L_price_0 {X : e_X} {d gn : Nat} {M M1 : e_M} {p0 : Int} (hE : e_E X d YX10_price [.inr (.inr 1), .inl p0] (557, gn, e_RF, M) (.inr 0, (557, gn + 1, e_RF, M1))) : e_E X (d + 1) YL_price [.inr (.inr 1), .inl p0, .inr (.inr 557)] (557, gn, e_RF, M) (.inl (some (.inl 1)), (557, gn + 1, e_RF, M1)) := by
  show e_G X (d + 1) YL_price 0 [some (.inr (.inr 1)), some (.inl p0), some (.inr (.inr 557)), none] [] (557, gn, e_RF, M) _
  refine e_r_aload_n (pc' := 1) (by decide) dL_price_0 rfl rfl rfl ?_
  refine e_r_iconst (pc' := 2) dL_price_1 rfl (by decide) ?_
  refine e_r_aload_n (pc' := 3) (by decide) dL_price_2 rfl rfl rfl ?_
  refine e_r_iload_n (pc' := 4) dL_price_3 rfl rfl rfl ?_
  refine e_r_callVc (a := 1) (av := [.inl p0]) (st := [.inl 0, .inr (.inr 557)]) mqYX10_price ml_RL_39 cl_10 rfl (Nat.le_of_ble_eq_true rfl) (by simp [e_cat]) rfl rfl rfl dL_price_4 (pre := []) (x := (0, 9, 12, 31)) (suf := []) rfl (fun y hy => by cases hy) ⟨by decide, by decide⟩ (by decide) kx_31 ca_0 (i := 3) (loc' := [some (.inr (.inr 1)), some (.inl p0), some (.inr (.inr 557)), none]) (pc' := 13) (Or.inr ⟨3, dL_price_12, rfl, rfl⟩) rfl rfl rfl hE ⟨Nat.le_refl _, Nat.le_succ _⟩ ⟨Nat.le_refl _, Nat.le_refl _⟩ ?_
  refine e_r_iconst (pc' := 14) dL_price_13 rfl (by decide) ?_
  exact e_r_iret (ty := .int) rfl (e_nI _) dL_price_14 rfl
theorem hl_L_would {X : e_X} {d gn : Nat} {M M1 : e_M} {p0 p1 p2 p3 p4 p5 p6 p7 : Int} {v : Int} (hE : e_E X d YX10_would [.inr (.inr 1), .inl p0, .inl p1, .inl p2, .inl p3, .inl p4, .inl p5, .inl p6, .inl p7] (557, gn, e_RF, M) (.inl (some (.inl v)), (557, gn, e_RF, M1))) : e_E X (d + 1) YL_would [.inr (.inr 1), .inl p0, .inl p1, .inl p2, .inl p3, .inl p4, .inl p5, .inl p6, .inl p7, .inr (.inr 557)] (557, gn, e_RF, M) (.inl (some (.inl 0)), (557, gn, e_RF, e_up M1 557 0 v)) := by
  show e_G X (d + 1) YL_would 0 [some (.inr (.inr 1)), some (.inl p0), some (.inl p1), some (.inl p2), some (.inl p3), some (.inl p4), some (.inl p5), some (.inl p6), some (.inl p7), some (.inr (.inr 557)), none] [] (557, gn, e_RF, M) _
  refine e_r_aload (pc' := 2) (by decide) dL_would_0 rfl rfl ?_
  refine e_r_iconst (pc' := 3) dL_would_2 rfl (by decide) ?_
  refine e_r_aload_n (pc' := 4) (by decide) dL_would_3 rfl rfl rfl ?_
  refine e_r_iload_n (pc' := 5) dL_would_4 rfl rfl rfl ?_
  refine e_r_iload_n (pc' := 6) dL_would_5 rfl rfl rfl ?_
  refine e_r_iload_n (pc' := 7) dL_would_6 rfl rfl rfl ?_
  refine e_r_iload (pc' := 9) dL_would_7 rfl rfl ?_
  refine e_r_iload (pc' := 11) dL_would_9 rfl rfl ?_
  refine e_r_iload (pc' := 13) dL_would_11 rfl rfl ?_
  refine e_r_iload (pc' := 15) dL_would_13 rfl rfl ?_
  refine e_r_iload (pc' := 17) dL_would_15 rfl rfl ?_
  refine e_r_callV (a := 1) (av := [.inl p0, .inl p1, .inl p2, .inl p3, .inl p4, .inl p5, .inl p6, .inl p7]) (st := [.inl 0, .inr (.inr 557)]) mqYX10_would ml_RL_42 cl_10 rfl (Nat.le_of_ble_eq_true rfl) (by simp [e_cat]) rfl rfl rfl dL_would_17 (pc' := 20) rfl hE ⟨Nat.le_refl _, Nat.le_refl _⟩ ⟨Nat.le_refl _, Nat.le_refl _⟩ ?_
  refine e_r_i2l (pc' := 21) dL_would_20 rfl ?_
  refine e_r_last (j9 := 0) (pc' := 22) rfl (Nat.le_of_ble_eq_true rfl) (by decide) (by decide) rfl dL_would_21 rfl ?_
  refine e_r_goto (pc' := 29) dL_would_22 rfl ?_
  refine e_r_iconst (pc' := 30) dL_would_29 rfl (by decide) ?_
  exact e_r_iret (ty := .int) rfl (e_nI _) dL_would_30 rfl
theorem hx_L_would_1 {X : e_X} {d gn : Nat} {M M1 : e_M} {p0 p1 p2 p3 p4 p5 p6 p7 : Int} (hE : e_E X d YX10_would [.inr (.inr 1), .inl p0, .inl p1, .inl p2, .inl p3, .inl p4, .inl p5, .inl p6, .inl p7] (557, gn, e_RF, M) (.inr 1, (557, gn + 1, e_RF, M1))) : e_E X (d + 1) YL_would [.inr (.inr 1), .inl p0, .inl p1, .inl p2, .inl p3, .inl p4, .inl p5, .inl p6, .inl p7, .inr (.inr 557)] (557, gn, e_RF, M) (.inl (some (.inl 1)), (557, gn + 1, e_RF, M1)) := by
  show e_G X (d + 1) YL_would 0 [some (.inr (.inr 1)), some (.inl p0), some (.inl p1), some (.inl p2), some (.inl p3), some (.inl p4), some (.inl p5), some (.inl p6), some (.inl p7), some (.inr (.inr 557)), none] [] (557, gn, e_RF, M) _
  refine e_r_aload (pc' := 2) (by decide) dL_would_0 rfl rfl ?_
  refine e_r_iconst (pc' := 3) dL_would_2 rfl (by decide) ?_
  refine e_r_aload_n (pc' := 4) (by decide) dL_would_3 rfl rfl rfl ?_
  refine e_r_iload_n (pc' := 5) dL_would_4 rfl rfl rfl ?_
  refine e_r_iload_n (pc' := 6) dL_would_5 rfl rfl rfl ?_
  refine e_r_iload_n (pc' := 7) dL_would_6 rfl rfl rfl ?_
  refine e_r_iload (pc' := 9) dL_would_7 rfl rfl ?_
  refine e_r_iload (pc' := 11) dL_would_9 rfl rfl ?_
  refine e_r_iload (pc' := 13) dL_would_11 rfl rfl ?_
  refine e_r_iload (pc' := 15) dL_would_13 rfl rfl ?_
  refine e_r_iload (pc' := 17) dL_would_15 rfl rfl ?_
  refine e_r_callVc (a := 1) (av := [.inl p0, .inl p1, .inl p2, .inl p3, .inl p4, .inl p5, .inl p6, .inl p7]) (st := [.inl 0, .inr (.inr 557)]) mqYX10_would ml_RL_42 cl_10 rfl (Nat.le_of_ble_eq_true rfl) (by simp [e_cat]) rfl rfl rfl dL_would_17 (pre := []) (x := (0, 22, 25, 13)) (suf := []) rfl (fun y hy => by cases hy) ⟨by decide, by decide⟩ (by decide) kx_13 ca_1 (i := 10) (loc' := [some (.inr (.inr 1)), some (.inl p0), some (.inl p1), some (.inl p2), some (.inl p3), some (.inl p4), some (.inl p5), some (.inl p6), some (.inl p7), some (.inr (.inr 557)), none]) (pc' := 27) (Or.inl ⟨dL_would_25, rfl⟩) rfl rfl rfl hE ⟨Nat.le_refl _, Nat.le_succ _⟩ ⟨Nat.le_refl _, Nat.le_refl _⟩ ?_
  refine e_r_iconst (pc' := 28) dL_would_27 rfl (by decide) ?_
  exact e_r_iret (ty := .int) rfl (e_nI _) dL_would_28 rfl
theorem hl_L_can {X : e_X} {d gn : Nat} {M M1 : e_M} {p0 : Int} {v : Int} (h01 : v = 0 ∨ v = 1) (hE : e_E X d YX10_can [.inr (.inr 1), .inl p0] (557, gn, e_RF, M) (.inl (some (.inl v)), (557, gn, e_RF, M1))) : e_E X (d + 1) YL_can [.inr (.inr 1), .inl p0, .inr (.inr 557)] (557, gn, e_RF, M) (.inl (some (.inl 0)), (557, gn, e_RF, e_up M1 557 0 v)) := by
  show e_G X (d + 1) YL_can 0 [some (.inr (.inr 1)), some (.inl p0), some (.inr (.inr 557)), none] [] (557, gn, e_RF, M) _
  refine e_r_aload_n (pc' := 1) (by decide) dL_can_0 rfl rfl rfl ?_
  refine e_r_iconst (pc' := 2) dL_can_1 rfl (by decide) ?_
  refine e_r_aload_n (pc' := 3) (by decide) dL_can_2 rfl rfl rfl ?_
  refine e_r_iload_n (pc' := 4) dL_can_3 rfl rfl rfl ?_
  refine e_r_callV (a := 1) (av := [.inl p0]) (st := [.inl 0, .inr (.inr 557)]) mqYX10_can ml_RL_46 cl_10 rfl (Nat.le_of_ble_eq_true rfl) (by simp [e_cat]) rfl rfl rfl dL_can_4 (pc' := 7) rfl hE ⟨Nat.le_refl _, Nat.le_refl _⟩ ⟨Nat.le_refl _, Nat.le_refl _⟩ ?_
  refine e_r_if_eq (tgt := 14) (pc' := 10) dL_can_7 rfl rfl (fun q => ?_) (fun q => ?_)
  · have hv : v = 0 := by omega
    subst hv
    refine e_r_lconst (pc' := 15) (z := 0) dL_can_14 rfl rfl ?_
    refine e_r_last (j9 := 0) (pc' := 16) rfl (Nat.le_of_ble_eq_true rfl) (by decide) (by decide) rfl dL_can_15 rfl ?_
    refine e_r_goto (pc' := 22) dL_can_16 rfl ?_
    refine e_r_iconst (pc' := 23) dL_can_22 rfl (by decide) ?_
    exact e_r_iret (ty := .int) rfl (e_nI _) dL_can_23 rfl
  · have hv : v = 1 := by omega
    subst hv
    refine e_r_lconst (pc' := 11) (z := 1) dL_can_10 rfl rfl ?_
    refine e_r_goto (pc' := 15) dL_can_11 rfl ?_
    refine e_r_last (j9 := 0) (pc' := 16) rfl (Nat.le_of_ble_eq_true rfl) (by decide) (by decide) rfl dL_can_15 rfl ?_
    refine e_r_goto (pc' := 22) dL_can_16 rfl ?_
    refine e_r_iconst (pc' := 23) dL_can_22 rfl (by decide) ?_
    exact e_r_iret (ty := .int) rfl (e_nI _) dL_can_23 rfl
theorem hx_L_can_0 {X : e_X} {d gn : Nat} {M M1 : e_M} {p0 : Int} (hE : e_E X d YX10_can [.inr (.inr 1), .inl p0] (557, gn, e_RF, M) (.inr 0, (557, gn + 1, e_RF, M1))) : e_E X (d + 1) YL_can [.inr (.inr 1), .inl p0, .inr (.inr 557)] (557, gn, e_RF, M) (.inl (some (.inl 1)), (557, gn + 1, e_RF, M1)) := by
  show e_G X (d + 1) YL_can 0 [some (.inr (.inr 1)), some (.inl p0), some (.inr (.inr 557)), none] [] (557, gn, e_RF, M) _
  refine e_r_aload_n (pc' := 1) (by decide) dL_can_0 rfl rfl rfl ?_
  refine e_r_iconst (pc' := 2) dL_can_1 rfl (by decide) ?_
  refine e_r_aload_n (pc' := 3) (by decide) dL_can_2 rfl rfl rfl ?_
  refine e_r_iload_n (pc' := 4) dL_can_3 rfl rfl rfl ?_
  refine e_r_callVc (a := 1) (av := [.inl p0]) (st := [.inl 0, .inr (.inr 557)]) mqYX10_can ml_RL_46 cl_10 rfl (Nat.le_of_ble_eq_true rfl) (by simp [e_cat]) rfl rfl rfl dL_can_4 (pre := []) (x := (0, 16, 19, 31)) (suf := []) rfl (fun y hy => by cases hy) ⟨by decide, by decide⟩ (by decide) kx_31 ca_0 (i := 3) (loc' := [some (.inr (.inr 1)), some (.inl p0), some (.inr (.inr 557)), none]) (pc' := 20) (Or.inr ⟨3, dL_can_19, rfl, rfl⟩) rfl rfl rfl hE ⟨Nat.le_refl _, Nat.le_succ _⟩ ⟨Nat.le_refl _, Nat.le_refl _⟩ ?_
  refine e_r_iconst (pc' := 21) dL_can_20 rfl (by decide) ?_
  exact e_r_iret (ty := .int) rfl (e_nI _) dL_can_21 rfl
theorem hl_L_ahead {X : e_X} {d gn : Nat} {M M1 : e_M} {p0 p1 : Int} {v : Int} (hE : e_E X d YX10_ahead [.inr (.inr 1), .inl p0, .inl p1] (557, gn, e_RF, M) (.inl (some (.inl v)), (557, gn, e_RF, M1))) : e_E X (d + 1) YL_ahead [.inr (.inr 1), .inl p0, .inl p1, .inr (.inr 557)] (557, gn, e_RF, M) (.inl (some (.inl 0)), (557, gn, e_RF, e_up M1 557 0 v)) := by
  show e_G X (d + 1) YL_ahead 0 [some (.inr (.inr 1)), some (.inl p0), some (.inl p1), some (.inr (.inr 557)), none] [] (557, gn, e_RF, M) _
  refine e_r_aload_n (pc' := 1) (by decide) dL_ahead_0 rfl rfl rfl ?_
  refine e_r_iconst (pc' := 2) dL_ahead_1 rfl (by decide) ?_
  refine e_r_aload_n (pc' := 3) (by decide) dL_ahead_2 rfl rfl rfl ?_
  refine e_r_iload_n (pc' := 4) dL_ahead_3 rfl rfl rfl ?_
  refine e_r_iload_n (pc' := 5) dL_ahead_4 rfl rfl rfl ?_
  refine e_r_callV (a := 1) (av := [.inl p0, .inl p1]) (st := [.inl 0, .inr (.inr 557)]) mqYX10_ahead ml_RL_50 cl_10 rfl (Nat.le_of_ble_eq_true rfl) (by simp [e_cat]) rfl rfl rfl dL_ahead_5 (pc' := 8) rfl hE ⟨Nat.le_refl _, Nat.le_refl _⟩ ⟨Nat.le_refl _, Nat.le_refl _⟩ ?_
  refine e_r_i2l (pc' := 9) dL_ahead_8 rfl ?_
  refine e_r_last (j9 := 0) (pc' := 10) rfl (Nat.le_of_ble_eq_true rfl) (by decide) (by decide) rfl dL_ahead_9 rfl ?_
  refine e_r_goto (pc' := 17) dL_ahead_10 rfl ?_
  refine e_r_iconst (pc' := 18) dL_ahead_17 rfl (by decide) ?_
  exact e_r_iret (ty := .int) rfl (e_nI _) dL_ahead_18 rfl
theorem hx_L_ahead_1 {X : e_X} {d gn : Nat} {M M1 : e_M} {p0 p1 : Int} (hE : e_E X d YX10_ahead [.inr (.inr 1), .inl p0, .inl p1] (557, gn, e_RF, M) (.inr 1, (557, gn + 1, e_RF, M1))) : e_E X (d + 1) YL_ahead [.inr (.inr 1), .inl p0, .inl p1, .inr (.inr 557)] (557, gn, e_RF, M) (.inl (some (.inl 1)), (557, gn + 1, e_RF, M1)) := by
  show e_G X (d + 1) YL_ahead 0 [some (.inr (.inr 1)), some (.inl p0), some (.inl p1), some (.inr (.inr 557)), none] [] (557, gn, e_RF, M) _
  refine e_r_aload_n (pc' := 1) (by decide) dL_ahead_0 rfl rfl rfl ?_
  refine e_r_iconst (pc' := 2) dL_ahead_1 rfl (by decide) ?_
  refine e_r_aload_n (pc' := 3) (by decide) dL_ahead_2 rfl rfl rfl ?_
  refine e_r_iload_n (pc' := 4) dL_ahead_3 rfl rfl rfl ?_
  refine e_r_iload_n (pc' := 5) dL_ahead_4 rfl rfl rfl ?_
  refine e_r_callVc (a := 1) (av := [.inl p0, .inl p1]) (st := [.inl 0, .inr (.inr 557)]) mqYX10_ahead ml_RL_50 cl_10 rfl (Nat.le_of_ble_eq_true rfl) (by simp [e_cat]) rfl rfl rfl dL_ahead_5 (pre := []) (x := (0, 10, 13, 13)) (suf := []) rfl (fun y hy => by cases hy) ⟨by decide, by decide⟩ (by decide) kx_13 ca_1 (i := 4) (loc' := [some (.inr (.inr 1)), some (.inl p0), some (.inl p1), some (.inr (.inr 557)), none]) (pc' := 15) (Or.inl ⟨dL_ahead_13, rfl⟩) rfl rfl rfl hE ⟨Nat.le_refl _, Nat.le_succ _⟩ ⟨Nat.le_refl _, Nat.le_refl _⟩ ?_
  refine e_r_iconst (pc' := 16) dL_ahead_15 rfl (by decide) ?_
  exact e_r_iret (ty := .int) rfl (e_nI _) dL_ahead_16 rfl
theorem hl_L_stay {X : e_X} {d gn : Nat} {M M1 : e_M} {p0 : Int} {v : Int} (hE : e_E X d YX10_stay [.inr (.inr 1), .inl p0] (557, gn, e_RF, M) (.inl (some (.inl v)), (557, gn, e_RF, M1))) : e_E X (d + 1) YL_stay [.inr (.inr 1), .inl p0, .inr (.inr 557)] (557, gn, e_RF, M) (.inl (some (.inl 0)), (557, gn, e_RF, e_up M1 557 0 v)) := by
  show e_G X (d + 1) YL_stay 0 [some (.inr (.inr 1)), some (.inl p0), some (.inr (.inr 557)), none] [] (557, gn, e_RF, M) _
  refine e_r_aload_n (pc' := 1) (by decide) dL_stay_0 rfl rfl rfl ?_
  refine e_r_iconst (pc' := 2) dL_stay_1 rfl (by decide) ?_
  refine e_r_aload_n (pc' := 3) (by decide) dL_stay_2 rfl rfl rfl ?_
  refine e_r_iload_n (pc' := 4) dL_stay_3 rfl rfl rfl ?_
  refine e_r_callV (a := 1) (av := [.inl p0]) (st := [.inl 0, .inr (.inr 557)]) mqYX10_stay ml_RL_53 cl_10 rfl (Nat.le_of_ble_eq_true rfl) (by simp [e_cat]) rfl rfl rfl dL_stay_4 (pc' := 7) rfl hE ⟨Nat.le_refl _, Nat.le_refl _⟩ ⟨Nat.le_refl _, Nat.le_refl _⟩ ?_
  refine e_r_i2l (pc' := 8) dL_stay_7 rfl ?_
  refine e_r_last (j9 := 0) (pc' := 9) rfl (Nat.le_of_ble_eq_true rfl) (by decide) (by decide) rfl dL_stay_8 rfl ?_
  refine e_r_goto (pc' := 15) dL_stay_9 rfl ?_
  refine e_r_iconst (pc' := 16) dL_stay_15 rfl (by decide) ?_
  exact e_r_iret (ty := .int) rfl (e_nI _) dL_stay_16 rfl
theorem hx_L_stay_1 {X : e_X} {d gn : Nat} {M M1 : e_M} {p0 : Int} (hE : e_E X d YX10_stay [.inr (.inr 1), .inl p0] (557, gn, e_RF, M) (.inr 1, (557, gn + 1, e_RF, M1))) : e_E X (d + 1) YL_stay [.inr (.inr 1), .inl p0, .inr (.inr 557)] (557, gn, e_RF, M) (.inl (some (.inl 1)), (557, gn + 1, e_RF, M1)) := by
  show e_G X (d + 1) YL_stay 0 [some (.inr (.inr 1)), some (.inl p0), some (.inr (.inr 557)), none] [] (557, gn, e_RF, M) _
  refine e_r_aload_n (pc' := 1) (by decide) dL_stay_0 rfl rfl rfl ?_
  refine e_r_iconst (pc' := 2) dL_stay_1 rfl (by decide) ?_
  refine e_r_aload_n (pc' := 3) (by decide) dL_stay_2 rfl rfl rfl ?_
  refine e_r_iload_n (pc' := 4) dL_stay_3 rfl rfl rfl ?_
  refine e_r_callVc (a := 1) (av := [.inl p0]) (st := [.inl 0, .inr (.inr 557)]) mqYX10_stay ml_RL_53 cl_10 rfl (Nat.le_of_ble_eq_true rfl) (by simp [e_cat]) rfl rfl rfl dL_stay_4 (pre := []) (x := (0, 9, 12, 13)) (suf := []) rfl (fun y hy => by cases hy) ⟨by decide, by decide⟩ (by decide) kx_13 ca_1 (i := 3) (loc' := [some (.inr (.inr 1)), some (.inl p0), some (.inr (.inr 557)), none]) (pc' := 13) (Or.inr ⟨3, dL_stay_12, rfl, rfl⟩) rfl rfl rfl hE ⟨Nat.le_refl _, Nat.le_succ _⟩ ⟨Nat.le_refl _, Nat.le_refl _⟩ ?_
  refine e_r_iconst (pc' := 14) dL_stay_13 rfl (by decide) ?_
  exact e_r_iret (ty := .int) rfl (e_nI _) dL_stay_14 rfl
theorem hl_L_giver {X : e_X} {d gn : Nat} {M M1 : e_M} {p0 : Int} {v : Int} (hE : e_E X d YX10_giver [.inr (.inr 1), .inl p0] (557, gn, e_RF, M) (.inl (some (.inl v)), (557, gn, e_RF, M1))) : e_E X (d + 1) YL_giver [.inr (.inr 1), .inl p0, .inr (.inr 557)] (557, gn, e_RF, M) (.inl (some (.inl 0)), (557, gn, e_RF, e_up M1 557 0 v)) := by
  show e_G X (d + 1) YL_giver 0 [some (.inr (.inr 1)), some (.inl p0), some (.inr (.inr 557)), none] [] (557, gn, e_RF, M) _
  refine e_r_aload_n (pc' := 1) (by decide) dL_giver_0 rfl rfl rfl ?_
  refine e_r_iconst (pc' := 2) dL_giver_1 rfl (by decide) ?_
  refine e_r_aload_n (pc' := 3) (by decide) dL_giver_2 rfl rfl rfl ?_
  refine e_r_iload_n (pc' := 4) dL_giver_3 rfl rfl rfl ?_
  refine e_r_callV (a := 1) (av := [.inl p0]) (st := [.inl 0, .inr (.inr 557)]) mqYX10_giver ml_RL_56 cl_10 rfl (Nat.le_of_ble_eq_true rfl) (by simp [e_cat]) rfl rfl rfl dL_giver_4 (pc' := 7) rfl hE ⟨Nat.le_refl _, Nat.le_refl _⟩ ⟨Nat.le_refl _, Nat.le_refl _⟩ ?_
  refine e_r_i2l (pc' := 8) dL_giver_7 rfl ?_
  refine e_r_last (j9 := 0) (pc' := 9) rfl (Nat.le_of_ble_eq_true rfl) (by decide) (by decide) rfl dL_giver_8 rfl ?_
  refine e_r_goto (pc' := 15) dL_giver_9 rfl ?_
  refine e_r_iconst (pc' := 16) dL_giver_15 rfl (by decide) ?_
  exact e_r_iret (ty := .int) rfl (e_nI _) dL_giver_16 rfl
theorem hx_L_giver_0 {X : e_X} {d gn : Nat} {M M1 : e_M} {p0 : Int} (hE : e_E X d YX10_giver [.inr (.inr 1), .inl p0] (557, gn, e_RF, M) (.inr 0, (557, gn + 1, e_RF, M1))) : e_E X (d + 1) YL_giver [.inr (.inr 1), .inl p0, .inr (.inr 557)] (557, gn, e_RF, M) (.inl (some (.inl 1)), (557, gn + 1, e_RF, M1)) := by
  show e_G X (d + 1) YL_giver 0 [some (.inr (.inr 1)), some (.inl p0), some (.inr (.inr 557)), none] [] (557, gn, e_RF, M) _
  refine e_r_aload_n (pc' := 1) (by decide) dL_giver_0 rfl rfl rfl ?_
  refine e_r_iconst (pc' := 2) dL_giver_1 rfl (by decide) ?_
  refine e_r_aload_n (pc' := 3) (by decide) dL_giver_2 rfl rfl rfl ?_
  refine e_r_iload_n (pc' := 4) dL_giver_3 rfl rfl rfl ?_
  refine e_r_callVc (a := 1) (av := [.inl p0]) (st := [.inl 0, .inr (.inr 557)]) mqYX10_giver ml_RL_56 cl_10 rfl (Nat.le_of_ble_eq_true rfl) (by simp [e_cat]) rfl rfl rfl dL_giver_4 (pre := []) (x := (0, 9, 12, 31)) (suf := []) rfl (fun y hy => by cases hy) ⟨by decide, by decide⟩ (by decide) kx_31 ca_0 (i := 3) (loc' := [some (.inr (.inr 1)), some (.inl p0), some (.inr (.inr 557)), none]) (pc' := 13) (Or.inr ⟨3, dL_giver_12, rfl, rfl⟩) rfl rfl rfl hE ⟨Nat.le_refl _, Nat.le_succ _⟩ ⟨Nat.le_refl _, Nat.le_refl _⟩ ?_
  refine e_r_iconst (pc' := 14) dL_giver_13 rfl (by decide) ?_
  exact e_r_iret (ty := .int) rfl (e_nI _) dL_giver_14 rfl
theorem hl_L_skips {X : e_X} {d gn : Nat} {M M1 : e_M} {p0 p1 p2 : Int} {v : Int} (hE : e_E X d YX10_skips [.inr (.inr 1), .inl p0, .inl p1, .inl p2] (557, gn, e_RF, M) (.inl (some (.inl v)), (557, gn, e_RF, M1))) : e_E X (d + 1) YL_skips [.inr (.inr 1), .inl p0, .inl p1, .inl p2, .inr (.inr 557)] (557, gn, e_RF, M) (.inl (some (.inl 0)), (557, gn, e_RF, e_up M1 557 0 v)) := by
  show e_G X (d + 1) YL_skips 0 [some (.inr (.inr 1)), some (.inl p0), some (.inl p1), some (.inl p2), some (.inr (.inr 557)), none] [] (557, gn, e_RF, M) _
  refine e_r_aload (pc' := 2) (by decide) dL_skips_0 rfl rfl ?_
  refine e_r_iconst (pc' := 3) dL_skips_2 rfl (by decide) ?_
  refine e_r_aload_n (pc' := 4) (by decide) dL_skips_3 rfl rfl rfl ?_
  refine e_r_iload_n (pc' := 5) dL_skips_4 rfl rfl rfl ?_
  refine e_r_iload_n (pc' := 6) dL_skips_5 rfl rfl rfl ?_
  refine e_r_iload_n (pc' := 7) dL_skips_6 rfl rfl rfl ?_
  refine e_r_callV (a := 1) (av := [.inl p0, .inl p1, .inl p2]) (st := [.inl 0, .inr (.inr 557)]) mqYX10_skips ml_RL_59 cl_10 rfl (Nat.le_of_ble_eq_true rfl) (by simp [e_cat]) rfl rfl rfl dL_skips_7 (pc' := 10) rfl hE ⟨Nat.le_refl _, Nat.le_refl _⟩ ⟨Nat.le_refl _, Nat.le_refl _⟩ ?_
  refine e_r_i2l (pc' := 11) dL_skips_10 rfl ?_
  refine e_r_last (j9 := 0) (pc' := 12) rfl (Nat.le_of_ble_eq_true rfl) (by decide) (by decide) rfl dL_skips_11 rfl ?_
  refine e_r_goto (pc' := 23) dL_skips_12 rfl ?_
  refine e_r_iconst (pc' := 24) dL_skips_23 rfl (by decide) ?_
  exact e_r_iret (ty := .int) rfl (e_nI _) dL_skips_24 rfl
theorem hx_L_skips_0 {X : e_X} {d gn : Nat} {M M1 : e_M} {p0 p1 p2 : Int} (hE : e_E X d YX10_skips [.inr (.inr 1), .inl p0, .inl p1, .inl p2] (557, gn, e_RF, M) (.inr 0, (557, gn + 1, e_RF, M1))) : e_E X (d + 1) YL_skips [.inr (.inr 1), .inl p0, .inl p1, .inl p2, .inr (.inr 557)] (557, gn, e_RF, M) (.inl (some (.inl 1)), (557, gn + 1, e_RF, M1)) := by
  show e_G X (d + 1) YL_skips 0 [some (.inr (.inr 1)), some (.inl p0), some (.inl p1), some (.inl p2), some (.inr (.inr 557)), none] [] (557, gn, e_RF, M) _
  refine e_r_aload (pc' := 2) (by decide) dL_skips_0 rfl rfl ?_
  refine e_r_iconst (pc' := 3) dL_skips_2 rfl (by decide) ?_
  refine e_r_aload_n (pc' := 4) (by decide) dL_skips_3 rfl rfl rfl ?_
  refine e_r_iload_n (pc' := 5) dL_skips_4 rfl rfl rfl ?_
  refine e_r_iload_n (pc' := 6) dL_skips_5 rfl rfl rfl ?_
  refine e_r_iload_n (pc' := 7) dL_skips_6 rfl rfl rfl ?_
  refine e_r_callVc (a := 1) (av := [.inl p0, .inl p1, .inl p2]) (st := [.inl 0, .inr (.inr 557)]) mqYX10_skips ml_RL_59 cl_10 rfl (Nat.le_of_ble_eq_true rfl) (by simp [e_cat]) rfl rfl rfl dL_skips_7 (pre := []) (x := (0, 12, 15, 31)) (suf := [(0, 12, 19, 13)]) rfl (fun y hy => by cases hy) ⟨by decide, by decide⟩ (by decide) kx_31 ca_0 (i := 5) (loc' := [some (.inr (.inr 1)), some (.inl p0), some (.inl p1), some (.inl p2), some (.inr (.inr 557)), none]) (pc' := 17) (Or.inl ⟨dL_skips_15, rfl⟩) rfl rfl rfl hE ⟨Nat.le_refl _, Nat.le_succ _⟩ ⟨Nat.le_refl _, Nat.le_refl _⟩ ?_
  refine e_r_iconst (pc' := 18) dL_skips_17 rfl (by decide) ?_
  exact e_r_iret (ty := .int) rfl (e_nI _) dL_skips_18 rfl
theorem hx_L_skips_1 {X : e_X} {d gn : Nat} {M M1 : e_M} {p0 p1 p2 : Int} (hE : e_E X d YX10_skips [.inr (.inr 1), .inl p0, .inl p1, .inl p2] (557, gn, e_RF, M) (.inr 1, (557, gn + 1, e_RF, M1))) : e_E X (d + 1) YL_skips [.inr (.inr 1), .inl p0, .inl p1, .inl p2, .inr (.inr 557)] (557, gn, e_RF, M) (.inl (some (.inl 2)), (557, gn + 1, e_RF, M1)) := by
  show e_G X (d + 1) YL_skips 0 [some (.inr (.inr 1)), some (.inl p0), some (.inl p1), some (.inl p2), some (.inr (.inr 557)), none] [] (557, gn, e_RF, M) _
  refine e_r_aload (pc' := 2) (by decide) dL_skips_0 rfl rfl ?_
  refine e_r_iconst (pc' := 3) dL_skips_2 rfl (by decide) ?_
  refine e_r_aload_n (pc' := 4) (by decide) dL_skips_3 rfl rfl rfl ?_
  refine e_r_iload_n (pc' := 5) dL_skips_4 rfl rfl rfl ?_
  refine e_r_iload_n (pc' := 6) dL_skips_5 rfl rfl rfl ?_
  refine e_r_iload_n (pc' := 7) dL_skips_6 rfl rfl rfl ?_
  refine e_r_callVc (a := 1) (av := [.inl p0, .inl p1, .inl p2]) (st := [.inl 0, .inr (.inr 557)]) mqYX10_skips ml_RL_59 cl_10 rfl (Nat.le_of_ble_eq_true rfl) (by simp [e_cat]) rfl rfl rfl dL_skips_7 (pre := [(0, 12, 15, 31)]) (x := (0, 12, 19, 13)) (suf := []) rfl (fun y hy => by rcases List.mem_singleton.mp hy with rfl; exact ⟨by decide, _, kx_31, rfl, rfl⟩) ⟨by decide, by decide⟩ (by decide) kx_13 ca_1 (i := 5) (loc' := [some (.inr (.inr 1)), some (.inl p0), some (.inl p1), some (.inl p2), some (.inr (.inr 557)), none]) (pc' := 21) (Or.inl ⟨dL_skips_19, rfl⟩) rfl rfl rfl hE ⟨Nat.le_refl _, Nat.le_succ _⟩ ⟨Nat.le_refl _, Nat.le_refl _⟩ ?_
  refine e_r_iconst (pc' := 22) dL_skips_21 rfl (by decide) ?_
  exact e_r_iret (ty := .int) rfl (e_nI _) dL_skips_22 rfl
theorem hl_L_apart {X : e_X} {d gn : Nat} {M M1 : e_M} {p0 p1 p2 : Int} {v : Int} (hE : e_E X d YX10_apart [.inr (.inr 1), .inl p0, .inl p1, .inl p2] (557, gn, e_RF, M) (.inl (some (.inl v)), (557, gn, e_RF, M1))) : e_E X (d + 1) YL_apart [.inr (.inr 1), .inl p0, .inl p1, .inl p2, .inr (.inr 557)] (557, gn, e_RF, M) (.inl (some (.inl 0)), (557, gn, e_RF, e_up M1 557 0 v)) := by
  show e_G X (d + 1) YL_apart 0 [some (.inr (.inr 1)), some (.inl p0), some (.inl p1), some (.inl p2), some (.inr (.inr 557)), none] [] (557, gn, e_RF, M) _
  refine e_r_aload (pc' := 2) (by decide) dL_apart_0 rfl rfl ?_
  refine e_r_iconst (pc' := 3) dL_apart_2 rfl (by decide) ?_
  refine e_r_aload_n (pc' := 4) (by decide) dL_apart_3 rfl rfl rfl ?_
  refine e_r_iload_n (pc' := 5) dL_apart_4 rfl rfl rfl ?_
  refine e_r_iload_n (pc' := 6) dL_apart_5 rfl rfl rfl ?_
  refine e_r_iload_n (pc' := 7) dL_apart_6 rfl rfl rfl ?_
  refine e_r_callV (a := 1) (av := [.inl p0, .inl p1, .inl p2]) (st := [.inl 0, .inr (.inr 557)]) mqYX10_apart ml_RL_63 cl_10 rfl (Nat.le_of_ble_eq_true rfl) (by simp [e_cat]) rfl rfl rfl dL_apart_7 (pc' := 10) rfl hE ⟨Nat.le_refl _, Nat.le_refl _⟩ ⟨Nat.le_refl _, Nat.le_refl _⟩ ?_
  refine e_r_i2l (pc' := 11) dL_apart_10 rfl ?_
  refine e_r_last (j9 := 0) (pc' := 12) rfl (Nat.le_of_ble_eq_true rfl) (by decide) (by decide) rfl dL_apart_11 rfl ?_
  refine e_r_goto (pc' := 23) dL_apart_12 rfl ?_
  refine e_r_iconst (pc' := 24) dL_apart_23 rfl (by decide) ?_
  exact e_r_iret (ty := .int) rfl (e_nI _) dL_apart_24 rfl
theorem hx_L_apart_0 {X : e_X} {d gn : Nat} {M M1 : e_M} {p0 p1 p2 : Int} (hE : e_E X d YX10_apart [.inr (.inr 1), .inl p0, .inl p1, .inl p2] (557, gn, e_RF, M) (.inr 0, (557, gn + 1, e_RF, M1))) : e_E X (d + 1) YL_apart [.inr (.inr 1), .inl p0, .inl p1, .inl p2, .inr (.inr 557)] (557, gn, e_RF, M) (.inl (some (.inl 1)), (557, gn + 1, e_RF, M1)) := by
  show e_G X (d + 1) YL_apart 0 [some (.inr (.inr 1)), some (.inl p0), some (.inl p1), some (.inl p2), some (.inr (.inr 557)), none] [] (557, gn, e_RF, M) _
  refine e_r_aload (pc' := 2) (by decide) dL_apart_0 rfl rfl ?_
  refine e_r_iconst (pc' := 3) dL_apart_2 rfl (by decide) ?_
  refine e_r_aload_n (pc' := 4) (by decide) dL_apart_3 rfl rfl rfl ?_
  refine e_r_iload_n (pc' := 5) dL_apart_4 rfl rfl rfl ?_
  refine e_r_iload_n (pc' := 6) dL_apart_5 rfl rfl rfl ?_
  refine e_r_iload_n (pc' := 7) dL_apart_6 rfl rfl rfl ?_
  refine e_r_callVc (a := 1) (av := [.inl p0, .inl p1, .inl p2]) (st := [.inl 0, .inr (.inr 557)]) mqYX10_apart ml_RL_63 cl_10 rfl (Nat.le_of_ble_eq_true rfl) (by simp [e_cat]) rfl rfl rfl dL_apart_7 (pre := []) (x := (0, 12, 15, 31)) (suf := [(0, 12, 19, 13)]) rfl (fun y hy => by cases hy) ⟨by decide, by decide⟩ (by decide) kx_31 ca_0 (i := 5) (loc' := [some (.inr (.inr 1)), some (.inl p0), some (.inl p1), some (.inl p2), some (.inr (.inr 557)), none]) (pc' := 17) (Or.inl ⟨dL_apart_15, rfl⟩) rfl rfl rfl hE ⟨Nat.le_refl _, Nat.le_succ _⟩ ⟨Nat.le_refl _, Nat.le_refl _⟩ ?_
  refine e_r_iconst (pc' := 18) dL_apart_17 rfl (by decide) ?_
  exact e_r_iret (ty := .int) rfl (e_nI _) dL_apart_18 rfl
theorem hx_L_apart_1 {X : e_X} {d gn : Nat} {M M1 : e_M} {p0 p1 p2 : Int} (hE : e_E X d YX10_apart [.inr (.inr 1), .inl p0, .inl p1, .inl p2] (557, gn, e_RF, M) (.inr 1, (557, gn + 1, e_RF, M1))) : e_E X (d + 1) YL_apart [.inr (.inr 1), .inl p0, .inl p1, .inl p2, .inr (.inr 557)] (557, gn, e_RF, M) (.inl (some (.inl 2)), (557, gn + 1, e_RF, M1)) := by
  show e_G X (d + 1) YL_apart 0 [some (.inr (.inr 1)), some (.inl p0), some (.inl p1), some (.inl p2), some (.inr (.inr 557)), none] [] (557, gn, e_RF, M) _
  refine e_r_aload (pc' := 2) (by decide) dL_apart_0 rfl rfl ?_
  refine e_r_iconst (pc' := 3) dL_apart_2 rfl (by decide) ?_
  refine e_r_aload_n (pc' := 4) (by decide) dL_apart_3 rfl rfl rfl ?_
  refine e_r_iload_n (pc' := 5) dL_apart_4 rfl rfl rfl ?_
  refine e_r_iload_n (pc' := 6) dL_apart_5 rfl rfl rfl ?_
  refine e_r_iload_n (pc' := 7) dL_apart_6 rfl rfl rfl ?_
  refine e_r_callVc (a := 1) (av := [.inl p0, .inl p1, .inl p2]) (st := [.inl 0, .inr (.inr 557)]) mqYX10_apart ml_RL_63 cl_10 rfl (Nat.le_of_ble_eq_true rfl) (by simp [e_cat]) rfl rfl rfl dL_apart_7 (pre := [(0, 12, 15, 31)]) (x := (0, 12, 19, 13)) (suf := []) rfl (fun y hy => by rcases List.mem_singleton.mp hy with rfl; exact ⟨by decide, _, kx_31, rfl, rfl⟩) ⟨by decide, by decide⟩ (by decide) kx_13 ca_1 (i := 5) (loc' := [some (.inr (.inr 1)), some (.inl p0), some (.inl p1), some (.inl p2), some (.inr (.inr 557)), none]) (pc' := 21) (Or.inl ⟨dL_apart_19, rfl⟩) rfl rfl rfl hE ⟨Nat.le_refl _, Nat.le_succ _⟩ ⟨Nat.le_refl _, Nat.le_refl _⟩ ?_
  refine e_r_iconst (pc' := 22) dL_apart_21 rfl (by decide) ?_
  exact e_r_iret (ty := .int) rfl (e_nI _) dL_apart_22 rfl
theorem hl_L_together {X : e_X} {d gn : Nat} {M M1 : e_M} {p0 p1 p2 : Int} {v : Int} (hE : e_E X d YX10_together [.inr (.inr 1), .inl p0, .inl p1, .inl p2] (557, gn, e_RF, M) (.inl (some (.inl v)), (557, gn, e_RF, M1))) : e_E X (d + 1) YL_together [.inr (.inr 1), .inl p0, .inl p1, .inl p2, .inr (.inr 557)] (557, gn, e_RF, M) (.inl (some (.inl 0)), (557, gn, e_RF, e_up M1 557 0 v)) := by
  show e_G X (d + 1) YL_together 0 [some (.inr (.inr 1)), some (.inl p0), some (.inl p1), some (.inl p2), some (.inr (.inr 557)), none] [] (557, gn, e_RF, M) _
  refine e_r_aload (pc' := 2) (by decide) dL_together_0 rfl rfl ?_
  refine e_r_iconst (pc' := 3) dL_together_2 rfl (by decide) ?_
  refine e_r_aload_n (pc' := 4) (by decide) dL_together_3 rfl rfl rfl ?_
  refine e_r_iload_n (pc' := 5) dL_together_4 rfl rfl rfl ?_
  refine e_r_iload_n (pc' := 6) dL_together_5 rfl rfl rfl ?_
  refine e_r_iload_n (pc' := 7) dL_together_6 rfl rfl rfl ?_
  refine e_r_callV (a := 1) (av := [.inl p0, .inl p1, .inl p2]) (st := [.inl 0, .inr (.inr 557)]) mqYX10_together ml_RL_66 cl_10 rfl (Nat.le_of_ble_eq_true rfl) (by simp [e_cat]) rfl rfl rfl dL_together_7 (pc' := 10) rfl hE ⟨Nat.le_refl _, Nat.le_refl _⟩ ⟨Nat.le_refl _, Nat.le_refl _⟩ ?_
  refine e_r_i2l (pc' := 11) dL_together_10 rfl ?_
  refine e_r_last (j9 := 0) (pc' := 12) rfl (Nat.le_of_ble_eq_true rfl) (by decide) (by decide) rfl dL_together_11 rfl ?_
  refine e_r_goto (pc' := 23) dL_together_12 rfl ?_
  refine e_r_iconst (pc' := 24) dL_together_23 rfl (by decide) ?_
  exact e_r_iret (ty := .int) rfl (e_nI _) dL_together_24 rfl
theorem hx_L_together_0 {X : e_X} {d gn : Nat} {M M1 : e_M} {p0 p1 p2 : Int} (hE : e_E X d YX10_together [.inr (.inr 1), .inl p0, .inl p1, .inl p2] (557, gn, e_RF, M) (.inr 0, (557, gn + 1, e_RF, M1))) : e_E X (d + 1) YL_together [.inr (.inr 1), .inl p0, .inl p1, .inl p2, .inr (.inr 557)] (557, gn, e_RF, M) (.inl (some (.inl 1)), (557, gn + 1, e_RF, M1)) := by
  show e_G X (d + 1) YL_together 0 [some (.inr (.inr 1)), some (.inl p0), some (.inl p1), some (.inl p2), some (.inr (.inr 557)), none] [] (557, gn, e_RF, M) _
  refine e_r_aload (pc' := 2) (by decide) dL_together_0 rfl rfl ?_
  refine e_r_iconst (pc' := 3) dL_together_2 rfl (by decide) ?_
  refine e_r_aload_n (pc' := 4) (by decide) dL_together_3 rfl rfl rfl ?_
  refine e_r_iload_n (pc' := 5) dL_together_4 rfl rfl rfl ?_
  refine e_r_iload_n (pc' := 6) dL_together_5 rfl rfl rfl ?_
  refine e_r_iload_n (pc' := 7) dL_together_6 rfl rfl rfl ?_
  refine e_r_callVc (a := 1) (av := [.inl p0, .inl p1, .inl p2]) (st := [.inl 0, .inr (.inr 557)]) mqYX10_together ml_RL_66 cl_10 rfl (Nat.le_of_ble_eq_true rfl) (by simp [e_cat]) rfl rfl rfl dL_together_7 (pre := []) (x := (0, 12, 15, 31)) (suf := [(0, 12, 19, 13)]) rfl (fun y hy => by cases hy) ⟨by decide, by decide⟩ (by decide) kx_31 ca_0 (i := 5) (loc' := [some (.inr (.inr 1)), some (.inl p0), some (.inl p1), some (.inl p2), some (.inr (.inr 557)), none]) (pc' := 17) (Or.inl ⟨dL_together_15, rfl⟩) rfl rfl rfl hE ⟨Nat.le_refl _, Nat.le_succ _⟩ ⟨Nat.le_refl _, Nat.le_refl _⟩ ?_
  refine e_r_iconst (pc' := 18) dL_together_17 rfl (by decide) ?_
  exact e_r_iret (ty := .int) rfl (e_nI _) dL_together_18 rfl
theorem hx_L_together_1 {X : e_X} {d gn : Nat} {M M1 : e_M} {p0 p1 p2 : Int} (hE : e_E X d YX10_together [.inr (.inr 1), .inl p0, .inl p1, .inl p2] (557, gn, e_RF, M) (.inr 1, (557, gn + 1, e_RF, M1))) : e_E X (d + 1) YL_together [.inr (.inr 1), .inl p0, .inl p1, .inl p2, .inr (.inr 557)] (557, gn, e_RF, M) (.inl (some (.inl 2)), (557, gn + 1, e_RF, M1)) := by
  show e_G X (d + 1) YL_together 0 [some (.inr (.inr 1)), some (.inl p0), some (.inl p1), some (.inl p2), some (.inr (.inr 557)), none] [] (557, gn, e_RF, M) _
  refine e_r_aload (pc' := 2) (by decide) dL_together_0 rfl rfl ?_
  refine e_r_iconst (pc' := 3) dL_together_2 rfl (by decide) ?_
  refine e_r_aload_n (pc' := 4) (by decide) dL_together_3 rfl rfl rfl ?_
  refine e_r_iload_n (pc' := 5) dL_together_4 rfl rfl rfl ?_
  refine e_r_iload_n (pc' := 6) dL_together_5 rfl rfl rfl ?_
  refine e_r_iload_n (pc' := 7) dL_together_6 rfl rfl rfl ?_
  refine e_r_callVc (a := 1) (av := [.inl p0, .inl p1, .inl p2]) (st := [.inl 0, .inr (.inr 557)]) mqYX10_together ml_RL_66 cl_10 rfl (Nat.le_of_ble_eq_true rfl) (by simp [e_cat]) rfl rfl rfl dL_together_7 (pre := [(0, 12, 15, 31)]) (x := (0, 12, 19, 13)) (suf := []) rfl (fun y hy => by rcases List.mem_singleton.mp hy with rfl; exact ⟨by decide, _, kx_31, rfl, rfl⟩) ⟨by decide, by decide⟩ (by decide) kx_13 ca_1 (i := 5) (loc' := [some (.inr (.inr 1)), some (.inl p0), some (.inl p1), some (.inl p2), some (.inr (.inr 557)), none]) (pc' := 21) (Or.inl ⟨dL_together_19, rfl⟩) rfl rfl rfl hE ⟨Nat.le_refl _, Nat.le_succ _⟩ ⟨Nat.le_refl _, Nat.le_refl _⟩ ?_
  refine e_r_iconst (pc' := 22) dL_together_21 rfl (by decide) ?_
  exact e_r_iret (ty := .int) rfl (e_nI _) dL_together_22 rfl
theorem hl_L_met {X : e_X} {d gn : Nat} {M M1 : e_M} {p0 p1 p2 : Int} {v : Int} (hE : e_E X d YX10_met [.inr (.inr 1), .inl p0, .inl p1, .inl p2] (557, gn, e_RF, M) (.inl (some (.inr (.inl v))), (557, gn, e_RF, M1))) : e_E X (d + 1) YL_met [.inr (.inr 1), .inl p0, .inl p1, .inl p2, .inr (.inr 557)] (557, gn, e_RF, M) (.inl (some (.inl 0)), (557, gn, e_RF, e_up M1 557 0 v)) := by
  show e_G X (d + 1) YL_met 0 [some (.inr (.inr 1)), some (.inl p0), some (.inl p1), some (.inl p2), some (.inr (.inr 557)), none] [] (557, gn, e_RF, M) _
  refine e_r_aload (pc' := 2) (by decide) dL_met_0 rfl rfl ?_
  refine e_r_iconst (pc' := 3) dL_met_2 rfl (by decide) ?_
  refine e_r_aload_n (pc' := 4) (by decide) dL_met_3 rfl rfl rfl ?_
  refine e_r_iload_n (pc' := 5) dL_met_4 rfl rfl rfl ?_
  refine e_r_iload_n (pc' := 6) dL_met_5 rfl rfl rfl ?_
  refine e_r_iload_n (pc' := 7) dL_met_6 rfl rfl rfl ?_
  refine e_r_callV (a := 1) (av := [.inl p0, .inl p1, .inl p2]) (st := [.inl 0, .inr (.inr 557)]) mqYX10_met ml_RL_69 cl_10 rfl (Nat.le_of_ble_eq_true rfl) (by simp [e_cat]) rfl rfl rfl dL_met_7 (pc' := 10) rfl hE ⟨Nat.le_refl _, Nat.le_refl _⟩ ⟨Nat.le_refl _, Nat.le_refl _⟩ ?_
  refine e_r_last (j9 := 0) (pc' := 11) rfl (Nat.le_of_ble_eq_true rfl) (by decide) (by decide) rfl dL_met_10 rfl ?_
  refine e_r_goto (pc' := 18) dL_met_11 rfl ?_
  refine e_r_iconst (pc' := 19) dL_met_18 rfl (by decide) ?_
  exact e_r_iret (ty := .int) rfl (e_nI _) dL_met_19 rfl
theorem hx_L_met_1 {X : e_X} {d gn : Nat} {M M1 : e_M} {p0 p1 p2 : Int} (hE : e_E X d YX10_met [.inr (.inr 1), .inl p0, .inl p1, .inl p2] (557, gn, e_RF, M) (.inr 1, (557, gn + 1, e_RF, M1))) : e_E X (d + 1) YL_met [.inr (.inr 1), .inl p0, .inl p1, .inl p2, .inr (.inr 557)] (557, gn, e_RF, M) (.inl (some (.inl 1)), (557, gn + 1, e_RF, M1)) := by
  show e_G X (d + 1) YL_met 0 [some (.inr (.inr 1)), some (.inl p0), some (.inl p1), some (.inl p2), some (.inr (.inr 557)), none] [] (557, gn, e_RF, M) _
  refine e_r_aload (pc' := 2) (by decide) dL_met_0 rfl rfl ?_
  refine e_r_iconst (pc' := 3) dL_met_2 rfl (by decide) ?_
  refine e_r_aload_n (pc' := 4) (by decide) dL_met_3 rfl rfl rfl ?_
  refine e_r_iload_n (pc' := 5) dL_met_4 rfl rfl rfl ?_
  refine e_r_iload_n (pc' := 6) dL_met_5 rfl rfl rfl ?_
  refine e_r_iload_n (pc' := 7) dL_met_6 rfl rfl rfl ?_
  refine e_r_callVc (a := 1) (av := [.inl p0, .inl p1, .inl p2]) (st := [.inl 0, .inr (.inr 557)]) mqYX10_met ml_RL_69 cl_10 rfl (Nat.le_of_ble_eq_true rfl) (by simp [e_cat]) rfl rfl rfl dL_met_7 (pre := []) (x := (0, 11, 14, 13)) (suf := []) rfl (fun y hy => by cases hy) ⟨by decide, by decide⟩ (by decide) kx_13 ca_1 (i := 5) (loc' := [some (.inr (.inr 1)), some (.inl p0), some (.inl p1), some (.inl p2), some (.inr (.inr 557)), none]) (pc' := 16) (Or.inl ⟨dL_met_14, rfl⟩) rfl rfl rfl hE ⟨Nat.le_refl _, Nat.le_succ _⟩ ⟨Nat.le_refl _, Nat.le_refl _⟩ ?_
  refine e_r_iconst (pc' := 17) dL_met_16 rfl (by decide) ?_
  exact e_r_iret (ty := .int) rfl (e_nI _) dL_met_17 rfl
theorem hl_L_open {X : e_X} {d gn : Nat} {M M1 : e_M} {p0 p1 p2 : Int} {v : Int} (hE : e_E X d YX10_open [.inr (.inr 1), .inl p0, .inl p1, .inl p2] (557, gn, e_RF, M) (.inl (some (.inl v)), (557, gn, e_RF, M1))) : e_E X (d + 1) YL_open [.inr (.inr 1), .inl p0, .inl p1, .inl p2, .inr (.inr 557)] (557, gn, e_RF, M) (.inl (some (.inl 0)), (557, gn, e_RF, e_up M1 557 0 v)) := by
  show e_G X (d + 1) YL_open 0 [some (.inr (.inr 1)), some (.inl p0), some (.inl p1), some (.inl p2), some (.inr (.inr 557)), none] [] (557, gn, e_RF, M) _
  refine e_r_aload (pc' := 2) (by decide) dL_open_0 rfl rfl ?_
  refine e_r_iconst (pc' := 3) dL_open_2 rfl (by decide) ?_
  refine e_r_aload_n (pc' := 4) (by decide) dL_open_3 rfl rfl rfl ?_
  refine e_r_iload_n (pc' := 5) dL_open_4 rfl rfl rfl ?_
  refine e_r_iload_n (pc' := 6) dL_open_5 rfl rfl rfl ?_
  refine e_r_iload_n (pc' := 7) dL_open_6 rfl rfl rfl ?_
  refine e_r_callV (a := 1) (av := [.inl p0, .inl p1, .inl p2]) (st := [.inl 0, .inr (.inr 557)]) mqYX10_open ml_RL_73 cl_10 rfl (Nat.le_of_ble_eq_true rfl) (by simp [e_cat]) rfl rfl rfl dL_open_7 (pc' := 10) rfl hE ⟨Nat.le_refl _, Nat.le_refl _⟩ ⟨Nat.le_refl _, Nat.le_refl _⟩ ?_
  refine e_r_i2l (pc' := 11) dL_open_10 rfl ?_
  refine e_r_last (j9 := 0) (pc' := 12) rfl (Nat.le_of_ble_eq_true rfl) (by decide) (by decide) rfl dL_open_11 rfl ?_
  refine e_r_goto (pc' := 19) dL_open_12 rfl ?_
  refine e_r_iconst (pc' := 20) dL_open_19 rfl (by decide) ?_
  exact e_r_iret (ty := .int) rfl (e_nI _) dL_open_20 rfl
theorem hx_L_open_1 {X : e_X} {d gn : Nat} {M M1 : e_M} {p0 p1 p2 : Int} (hE : e_E X d YX10_open [.inr (.inr 1), .inl p0, .inl p1, .inl p2] (557, gn, e_RF, M) (.inr 1, (557, gn + 1, e_RF, M1))) : e_E X (d + 1) YL_open [.inr (.inr 1), .inl p0, .inl p1, .inl p2, .inr (.inr 557)] (557, gn, e_RF, M) (.inl (some (.inl 1)), (557, gn + 1, e_RF, M1)) := by
  show e_G X (d + 1) YL_open 0 [some (.inr (.inr 1)), some (.inl p0), some (.inl p1), some (.inl p2), some (.inr (.inr 557)), none] [] (557, gn, e_RF, M) _
  refine e_r_aload (pc' := 2) (by decide) dL_open_0 rfl rfl ?_
  refine e_r_iconst (pc' := 3) dL_open_2 rfl (by decide) ?_
  refine e_r_aload_n (pc' := 4) (by decide) dL_open_3 rfl rfl rfl ?_
  refine e_r_iload_n (pc' := 5) dL_open_4 rfl rfl rfl ?_
  refine e_r_iload_n (pc' := 6) dL_open_5 rfl rfl rfl ?_
  refine e_r_iload_n (pc' := 7) dL_open_6 rfl rfl rfl ?_
  refine e_r_callVc (a := 1) (av := [.inl p0, .inl p1, .inl p2]) (st := [.inl 0, .inr (.inr 557)]) mqYX10_open ml_RL_73 cl_10 rfl (Nat.le_of_ble_eq_true rfl) (by simp [e_cat]) rfl rfl rfl dL_open_7 (pre := []) (x := (0, 12, 15, 13)) (suf := []) rfl (fun y hy => by cases hy) ⟨by decide, by decide⟩ (by decide) kx_13 ca_1 (i := 5) (loc' := [some (.inr (.inr 1)), some (.inl p0), some (.inl p1), some (.inl p2), some (.inr (.inr 557)), none]) (pc' := 17) (Or.inl ⟨dL_open_15, rfl⟩) rfl rfl rfl hE ⟨Nat.le_refl _, Nat.le_succ _⟩ ⟨Nat.le_refl _, Nat.le_refl _⟩ ?_
  refine e_r_iconst (pc' := 18) dL_open_17 rfl (by decide) ?_
  exact e_r_iret (ty := .int) rfl (e_nI _) dL_open_18 rfl
theorem hl_L_share {X : e_X} {d gn : Nat} {M M1 : e_M} {p0 p1 p2 : Int} {v : Int} (hE : e_E X d YX10_share [.inr (.inr 1), .inl p0, .inl p1, .inl p2] (557, gn, e_RF, M) (.inl (some (.inl v)), (557, gn, e_RF, M1))) : e_E X (d + 1) YL_share [.inr (.inr 1), .inl p0, .inl p1, .inl p2, .inr (.inr 557)] (557, gn, e_RF, M) (.inl (some (.inl 0)), (557, gn, e_RF, e_up M1 557 0 v)) := by
  show e_G X (d + 1) YL_share 0 [some (.inr (.inr 1)), some (.inl p0), some (.inl p1), some (.inl p2), some (.inr (.inr 557)), none] [] (557, gn, e_RF, M) _
  refine e_r_aload (pc' := 2) (by decide) dL_share_0 rfl rfl ?_
  refine e_r_iconst (pc' := 3) dL_share_2 rfl (by decide) ?_
  refine e_r_aload_n (pc' := 4) (by decide) dL_share_3 rfl rfl rfl ?_
  refine e_r_iload_n (pc' := 5) dL_share_4 rfl rfl rfl ?_
  refine e_r_iload_n (pc' := 6) dL_share_5 rfl rfl rfl ?_
  refine e_r_iload_n (pc' := 7) dL_share_6 rfl rfl rfl ?_
  refine e_r_callV (a := 1) (av := [.inl p0, .inl p1, .inl p2]) (st := [.inl 0, .inr (.inr 557)]) mqYX10_share ml_RL_76 cl_10 rfl (Nat.le_of_ble_eq_true rfl) (by simp [e_cat]) rfl rfl rfl dL_share_7 (pc' := 10) rfl hE ⟨Nat.le_refl _, Nat.le_refl _⟩ ⟨Nat.le_refl _, Nat.le_refl _⟩ ?_
  refine e_r_i2l (pc' := 11) dL_share_10 rfl ?_
  refine e_r_last (j9 := 0) (pc' := 12) rfl (Nat.le_of_ble_eq_true rfl) (by decide) (by decide) rfl dL_share_11 rfl ?_
  refine e_r_goto (pc' := 23) dL_share_12 rfl ?_
  refine e_r_iconst (pc' := 24) dL_share_23 rfl (by decide) ?_
  exact e_r_iret (ty := .int) rfl (e_nI _) dL_share_24 rfl
theorem hx_L_share_0 {X : e_X} {d gn : Nat} {M M1 : e_M} {p0 p1 p2 : Int} (hE : e_E X d YX10_share [.inr (.inr 1), .inl p0, .inl p1, .inl p2] (557, gn, e_RF, M) (.inr 0, (557, gn + 1, e_RF, M1))) : e_E X (d + 1) YL_share [.inr (.inr 1), .inl p0, .inl p1, .inl p2, .inr (.inr 557)] (557, gn, e_RF, M) (.inl (some (.inl 1)), (557, gn + 1, e_RF, M1)) := by
  show e_G X (d + 1) YL_share 0 [some (.inr (.inr 1)), some (.inl p0), some (.inl p1), some (.inl p2), some (.inr (.inr 557)), none] [] (557, gn, e_RF, M) _
  refine e_r_aload (pc' := 2) (by decide) dL_share_0 rfl rfl ?_
  refine e_r_iconst (pc' := 3) dL_share_2 rfl (by decide) ?_
  refine e_r_aload_n (pc' := 4) (by decide) dL_share_3 rfl rfl rfl ?_
  refine e_r_iload_n (pc' := 5) dL_share_4 rfl rfl rfl ?_
  refine e_r_iload_n (pc' := 6) dL_share_5 rfl rfl rfl ?_
  refine e_r_iload_n (pc' := 7) dL_share_6 rfl rfl rfl ?_
  refine e_r_callVc (a := 1) (av := [.inl p0, .inl p1, .inl p2]) (st := [.inl 0, .inr (.inr 557)]) mqYX10_share ml_RL_76 cl_10 rfl (Nat.le_of_ble_eq_true rfl) (by simp [e_cat]) rfl rfl rfl dL_share_7 (pre := []) (x := (0, 12, 15, 31)) (suf := [(0, 12, 19, 13)]) rfl (fun y hy => by cases hy) ⟨by decide, by decide⟩ (by decide) kx_31 ca_0 (i := 5) (loc' := [some (.inr (.inr 1)), some (.inl p0), some (.inl p1), some (.inl p2), some (.inr (.inr 557)), none]) (pc' := 17) (Or.inl ⟨dL_share_15, rfl⟩) rfl rfl rfl hE ⟨Nat.le_refl _, Nat.le_succ _⟩ ⟨Nat.le_refl _, Nat.le_refl _⟩ ?_
  refine e_r_iconst (pc' := 18) dL_share_17 rfl (by decide) ?_
  exact e_r_iret (ty := .int) rfl (e_nI _) dL_share_18 rfl
theorem hx_L_share_1 {X : e_X} {d gn : Nat} {M M1 : e_M} {p0 p1 p2 : Int} (hE : e_E X d YX10_share [.inr (.inr 1), .inl p0, .inl p1, .inl p2] (557, gn, e_RF, M) (.inr 1, (557, gn + 1, e_RF, M1))) : e_E X (d + 1) YL_share [.inr (.inr 1), .inl p0, .inl p1, .inl p2, .inr (.inr 557)] (557, gn, e_RF, M) (.inl (some (.inl 2)), (557, gn + 1, e_RF, M1)) := by
  show e_G X (d + 1) YL_share 0 [some (.inr (.inr 1)), some (.inl p0), some (.inl p1), some (.inl p2), some (.inr (.inr 557)), none] [] (557, gn, e_RF, M) _
  refine e_r_aload (pc' := 2) (by decide) dL_share_0 rfl rfl ?_
  refine e_r_iconst (pc' := 3) dL_share_2 rfl (by decide) ?_
  refine e_r_aload_n (pc' := 4) (by decide) dL_share_3 rfl rfl rfl ?_
  refine e_r_iload_n (pc' := 5) dL_share_4 rfl rfl rfl ?_
  refine e_r_iload_n (pc' := 6) dL_share_5 rfl rfl rfl ?_
  refine e_r_iload_n (pc' := 7) dL_share_6 rfl rfl rfl ?_
  refine e_r_callVc (a := 1) (av := [.inl p0, .inl p1, .inl p2]) (st := [.inl 0, .inr (.inr 557)]) mqYX10_share ml_RL_76 cl_10 rfl (Nat.le_of_ble_eq_true rfl) (by simp [e_cat]) rfl rfl rfl dL_share_7 (pre := [(0, 12, 15, 31)]) (x := (0, 12, 19, 13)) (suf := []) rfl (fun y hy => by rcases List.mem_singleton.mp hy with rfl; exact ⟨by decide, _, kx_31, rfl, rfl⟩) ⟨by decide, by decide⟩ (by decide) kx_13 ca_1 (i := 5) (loc' := [some (.inr (.inr 1)), some (.inl p0), some (.inl p1), some (.inl p2), some (.inr (.inr 557)), none]) (pc' := 21) (Or.inl ⟨dL_share_19, rfl⟩) rfl rfl rfl hE ⟨Nat.le_refl _, Nat.le_succ _⟩ ⟨Nat.le_refl _, Nat.le_refl _⟩ ?_
  refine e_r_iconst (pc' := 22) dL_share_21 rfl (by decide) ?_
  exact e_r_iret (ty := .int) rfl (e_nI _) dL_share_22 rfl
theorem hl_L_youngest {X : e_X} {d gn : Nat} {M M1 : e_M} {p0 : Int} {v : Int} (hE : e_E X d YX10_youngest [.inr (.inr 1), .inl p0] (557, gn, e_RF, M) (.inl (some (.inl v)), (557, gn, e_RF, M1))) : e_E X (d + 1) YL_youngest [.inr (.inr 1), .inl p0, .inr (.inr 557)] (557, gn, e_RF, M) (.inl (some (.inl 0)), (557, gn, e_RF, e_up M1 557 0 v)) := by
  show e_G X (d + 1) YL_youngest 0 [some (.inr (.inr 1)), some (.inl p0), some (.inr (.inr 557)), none] [] (557, gn, e_RF, M) _
  refine e_r_aload_n (pc' := 1) (by decide) dL_youngest_0 rfl rfl rfl ?_
  refine e_r_iconst (pc' := 2) dL_youngest_1 rfl (by decide) ?_
  refine e_r_aload_n (pc' := 3) (by decide) dL_youngest_2 rfl rfl rfl ?_
  refine e_r_iload_n (pc' := 4) dL_youngest_3 rfl rfl rfl ?_
  refine e_r_callV (a := 1) (av := [.inl p0]) (st := [.inl 0, .inr (.inr 557)]) mqYX10_youngest ml_RL_79 cl_10 rfl (Nat.le_of_ble_eq_true rfl) (by simp [e_cat]) rfl rfl rfl dL_youngest_4 (pc' := 7) rfl hE ⟨Nat.le_refl _, Nat.le_refl _⟩ ⟨Nat.le_refl _, Nat.le_refl _⟩ ?_
  refine e_r_i2l (pc' := 8) dL_youngest_7 rfl ?_
  refine e_r_last (j9 := 0) (pc' := 9) rfl (Nat.le_of_ble_eq_true rfl) (by decide) (by decide) rfl dL_youngest_8 rfl ?_
  refine e_r_goto (pc' := 15) dL_youngest_9 rfl ?_
  refine e_r_iconst (pc' := 16) dL_youngest_15 rfl (by decide) ?_
  exact e_r_iret (ty := .int) rfl (e_nI _) dL_youngest_16 rfl
theorem hx_L_youngest_1 {X : e_X} {d gn : Nat} {M M1 : e_M} {p0 : Int} (hE : e_E X d YX10_youngest [.inr (.inr 1), .inl p0] (557, gn, e_RF, M) (.inr 1, (557, gn + 1, e_RF, M1))) : e_E X (d + 1) YL_youngest [.inr (.inr 1), .inl p0, .inr (.inr 557)] (557, gn, e_RF, M) (.inl (some (.inl 1)), (557, gn + 1, e_RF, M1)) := by
  show e_G X (d + 1) YL_youngest 0 [some (.inr (.inr 1)), some (.inl p0), some (.inr (.inr 557)), none] [] (557, gn, e_RF, M) _
  refine e_r_aload_n (pc' := 1) (by decide) dL_youngest_0 rfl rfl rfl ?_
  refine e_r_iconst (pc' := 2) dL_youngest_1 rfl (by decide) ?_
  refine e_r_aload_n (pc' := 3) (by decide) dL_youngest_2 rfl rfl rfl ?_
  refine e_r_iload_n (pc' := 4) dL_youngest_3 rfl rfl rfl ?_
  refine e_r_callVc (a := 1) (av := [.inl p0]) (st := [.inl 0, .inr (.inr 557)]) mqYX10_youngest ml_RL_79 cl_10 rfl (Nat.le_of_ble_eq_true rfl) (by simp [e_cat]) rfl rfl rfl dL_youngest_4 (pre := []) (x := (0, 9, 12, 13)) (suf := []) rfl (fun y hy => by cases hy) ⟨by decide, by decide⟩ (by decide) kx_13 ca_1 (i := 3) (loc' := [some (.inr (.inr 1)), some (.inl p0), some (.inr (.inr 557)), none]) (pc' := 13) (Or.inr ⟨3, dL_youngest_12, rfl, rfl⟩) rfl rfl rfl hE ⟨Nat.le_refl _, Nat.le_succ _⟩ ⟨Nat.le_refl _, Nat.le_refl _⟩ ?_
  refine e_r_iconst (pc' := 14) dL_youngest_13 rfl (by decide) ?_
  exact e_r_iret (ty := .int) rfl (e_nI _) dL_youngest_14 rfl
theorem hl_L_next {X : e_X} {d gn : Nat} {M M1 : e_M} {p0 p1 : Int} {v : Int} (hE : e_E X d YX10_next [.inr (.inr 1), .inl p0, .inl p1] (557, gn, e_RF, M) (.inl (some (.inl v)), (557, gn, e_RF, M1))) : e_E X (d + 1) YL_next [.inr (.inr 1), .inl p0, .inl p1, .inr (.inr 557)] (557, gn, e_RF, M) (.inl (some (.inl 0)), (557, gn, e_RF, e_up M1 557 0 v)) := by
  show e_G X (d + 1) YL_next 0 [some (.inr (.inr 1)), some (.inl p0), some (.inl p1), some (.inr (.inr 557)), none] [] (557, gn, e_RF, M) _
  refine e_r_aload_n (pc' := 1) (by decide) dL_next_0 rfl rfl rfl ?_
  refine e_r_iconst (pc' := 2) dL_next_1 rfl (by decide) ?_
  refine e_r_aload_n (pc' := 3) (by decide) dL_next_2 rfl rfl rfl ?_
  refine e_r_iload_n (pc' := 4) dL_next_3 rfl rfl rfl ?_
  refine e_r_iload_n (pc' := 5) dL_next_4 rfl rfl rfl ?_
  refine e_r_callV (a := 1) (av := [.inl p0, .inl p1]) (st := [.inl 0, .inr (.inr 557)]) mqYX10_next ml_RL_82 cl_10 rfl (Nat.le_of_ble_eq_true rfl) (by simp [e_cat]) rfl rfl rfl dL_next_5 (pc' := 8) rfl hE ⟨Nat.le_refl _, Nat.le_refl _⟩ ⟨Nat.le_refl _, Nat.le_refl _⟩ ?_
  refine e_r_i2l (pc' := 9) dL_next_8 rfl ?_
  refine e_r_last (j9 := 0) (pc' := 10) rfl (Nat.le_of_ble_eq_true rfl) (by decide) (by decide) rfl dL_next_9 rfl ?_
  refine e_r_goto (pc' := 21) dL_next_10 rfl ?_
  refine e_r_iconst (pc' := 22) dL_next_21 rfl (by decide) ?_
  exact e_r_iret (ty := .int) rfl (e_nI _) dL_next_22 rfl
theorem hx_L_next_0 {X : e_X} {d gn : Nat} {M M1 : e_M} {p0 p1 : Int} (hE : e_E X d YX10_next [.inr (.inr 1), .inl p0, .inl p1] (557, gn, e_RF, M) (.inr 0, (557, gn + 1, e_RF, M1))) : e_E X (d + 1) YL_next [.inr (.inr 1), .inl p0, .inl p1, .inr (.inr 557)] (557, gn, e_RF, M) (.inl (some (.inl 1)), (557, gn + 1, e_RF, M1)) := by
  show e_G X (d + 1) YL_next 0 [some (.inr (.inr 1)), some (.inl p0), some (.inl p1), some (.inr (.inr 557)), none] [] (557, gn, e_RF, M) _
  refine e_r_aload_n (pc' := 1) (by decide) dL_next_0 rfl rfl rfl ?_
  refine e_r_iconst (pc' := 2) dL_next_1 rfl (by decide) ?_
  refine e_r_aload_n (pc' := 3) (by decide) dL_next_2 rfl rfl rfl ?_
  refine e_r_iload_n (pc' := 4) dL_next_3 rfl rfl rfl ?_
  refine e_r_iload_n (pc' := 5) dL_next_4 rfl rfl rfl ?_
  refine e_r_callVc (a := 1) (av := [.inl p0, .inl p1]) (st := [.inl 0, .inr (.inr 557)]) mqYX10_next ml_RL_82 cl_10 rfl (Nat.le_of_ble_eq_true rfl) (by simp [e_cat]) rfl rfl rfl dL_next_5 (pre := []) (x := (0, 10, 13, 31)) (suf := [(0, 10, 17, 13)]) rfl (fun y hy => by cases hy) ⟨by decide, by decide⟩ (by decide) kx_31 ca_0 (i := 4) (loc' := [some (.inr (.inr 1)), some (.inl p0), some (.inl p1), some (.inr (.inr 557)), none]) (pc' := 15) (Or.inl ⟨dL_next_13, rfl⟩) rfl rfl rfl hE ⟨Nat.le_refl _, Nat.le_succ _⟩ ⟨Nat.le_refl _, Nat.le_refl _⟩ ?_
  refine e_r_iconst (pc' := 16) dL_next_15 rfl (by decide) ?_
  exact e_r_iret (ty := .int) rfl (e_nI _) dL_next_16 rfl
theorem hx_L_next_1 {X : e_X} {d gn : Nat} {M M1 : e_M} {p0 p1 : Int} (hE : e_E X d YX10_next [.inr (.inr 1), .inl p0, .inl p1] (557, gn, e_RF, M) (.inr 1, (557, gn + 1, e_RF, M1))) : e_E X (d + 1) YL_next [.inr (.inr 1), .inl p0, .inl p1, .inr (.inr 557)] (557, gn, e_RF, M) (.inl (some (.inl 2)), (557, gn + 1, e_RF, M1)) := by
  show e_G X (d + 1) YL_next 0 [some (.inr (.inr 1)), some (.inl p0), some (.inl p1), some (.inr (.inr 557)), none] [] (557, gn, e_RF, M) _
  refine e_r_aload_n (pc' := 1) (by decide) dL_next_0 rfl rfl rfl ?_
  refine e_r_iconst (pc' := 2) dL_next_1 rfl (by decide) ?_
  refine e_r_aload_n (pc' := 3) (by decide) dL_next_2 rfl rfl rfl ?_
  refine e_r_iload_n (pc' := 4) dL_next_3 rfl rfl rfl ?_
  refine e_r_iload_n (pc' := 5) dL_next_4 rfl rfl rfl ?_
  refine e_r_callVc (a := 1) (av := [.inl p0, .inl p1]) (st := [.inl 0, .inr (.inr 557)]) mqYX10_next ml_RL_82 cl_10 rfl (Nat.le_of_ble_eq_true rfl) (by simp [e_cat]) rfl rfl rfl dL_next_5 (pre := [(0, 10, 13, 31)]) (x := (0, 10, 17, 13)) (suf := []) rfl (fun y hy => by rcases List.mem_singleton.mp hy with rfl; exact ⟨by decide, _, kx_31, rfl, rfl⟩) ⟨by decide, by decide⟩ (by decide) kx_13 ca_1 (i := 4) (loc' := [some (.inr (.inr 1)), some (.inl p0), some (.inl p1), some (.inr (.inr 557)), none]) (pc' := 19) (Or.inl ⟨dL_next_17, rfl⟩) rfl rfl rfl hE ⟨Nat.le_refl _, Nat.le_succ _⟩ ⟨Nat.le_refl _, Nat.le_refl _⟩ ?_
  refine e_r_iconst (pc' := 20) dL_next_19 rfl (by decide) ?_
  exact e_r_iret (ty := .int) rfl (e_nI _) dL_next_20 rfl
theorem hl_L_debt {X : e_X} {d gn : Nat} {M M1 : e_M} {p0 : Int} {v : Int} (hE : e_E X d YX10_debt [.inr (.inr 1), .inl p0] (557, gn, e_RF, M) (.inl (some (.inl v)), (557, gn, e_RF, M1))) : e_E X (d + 1) YL_debt [.inr (.inr 1), .inl p0, .inr (.inr 557)] (557, gn, e_RF, M) (.inl (some (.inl 0)), (557, gn, e_RF, e_up M1 557 0 v)) := by
  show e_G X (d + 1) YL_debt 0 [some (.inr (.inr 1)), some (.inl p0), some (.inr (.inr 557)), none] [] (557, gn, e_RF, M) _
  refine e_r_aload_n (pc' := 1) (by decide) dL_debt_0 rfl rfl rfl ?_
  refine e_r_iconst (pc' := 2) dL_debt_1 rfl (by decide) ?_
  refine e_r_aload_n (pc' := 3) (by decide) dL_debt_2 rfl rfl rfl ?_
  refine e_r_iload_n (pc' := 4) dL_debt_3 rfl rfl rfl ?_
  refine e_r_callV (a := 1) (av := [.inl p0]) (st := [.inl 0, .inr (.inr 557)]) mqYX10_debt ml_RL_85 cl_10 rfl (Nat.le_of_ble_eq_true rfl) (by simp [e_cat]) rfl rfl rfl dL_debt_4 (pc' := 7) rfl hE ⟨Nat.le_refl _, Nat.le_refl _⟩ ⟨Nat.le_refl _, Nat.le_refl _⟩ ?_
  refine e_r_i2l (pc' := 8) dL_debt_7 rfl ?_
  refine e_r_last (j9 := 0) (pc' := 9) rfl (Nat.le_of_ble_eq_true rfl) (by decide) (by decide) rfl dL_debt_8 rfl ?_
  refine e_r_goto (pc' := 15) dL_debt_9 rfl ?_
  refine e_r_iconst (pc' := 16) dL_debt_15 rfl (by decide) ?_
  exact e_r_iret (ty := .int) rfl (e_nI _) dL_debt_16 rfl
theorem hx_L_debt_0 {X : e_X} {d gn : Nat} {M M1 : e_M} {p0 : Int} (hE : e_E X d YX10_debt [.inr (.inr 1), .inl p0] (557, gn, e_RF, M) (.inr 0, (557, gn + 1, e_RF, M1))) : e_E X (d + 1) YL_debt [.inr (.inr 1), .inl p0, .inr (.inr 557)] (557, gn, e_RF, M) (.inl (some (.inl 1)), (557, gn + 1, e_RF, M1)) := by
  show e_G X (d + 1) YL_debt 0 [some (.inr (.inr 1)), some (.inl p0), some (.inr (.inr 557)), none] [] (557, gn, e_RF, M) _
  refine e_r_aload_n (pc' := 1) (by decide) dL_debt_0 rfl rfl rfl ?_
  refine e_r_iconst (pc' := 2) dL_debt_1 rfl (by decide) ?_
  refine e_r_aload_n (pc' := 3) (by decide) dL_debt_2 rfl rfl rfl ?_
  refine e_r_iload_n (pc' := 4) dL_debt_3 rfl rfl rfl ?_
  refine e_r_callVc (a := 1) (av := [.inl p0]) (st := [.inl 0, .inr (.inr 557)]) mqYX10_debt ml_RL_85 cl_10 rfl (Nat.le_of_ble_eq_true rfl) (by simp [e_cat]) rfl rfl rfl dL_debt_4 (pre := []) (x := (0, 9, 12, 31)) (suf := []) rfl (fun y hy => by cases hy) ⟨by decide, by decide⟩ (by decide) kx_31 ca_0 (i := 3) (loc' := [some (.inr (.inr 1)), some (.inl p0), some (.inr (.inr 557)), none]) (pc' := 13) (Or.inr ⟨3, dL_debt_12, rfl, rfl⟩) rfl rfl rfl hE ⟨Nat.le_refl _, Nat.le_succ _⟩ ⟨Nat.le_refl _, Nat.le_refl _⟩ ?_
  refine e_r_iconst (pc' := 14) dL_debt_13 rfl (by decide) ?_
  exact e_r_iret (ty := .int) rfl (e_nI _) dL_debt_14 rfl
theorem hl_L_spare {X : e_X} {d gn : Nat} {M M1 : e_M} {p0 p1 : Int} {v : Int} (hE : e_E X d YX10_spare [.inr (.inr 1), .inl p0, .inl p1] (557, gn, e_RF, M) (.inl (some (.inl v)), (557, gn, e_RF, M1))) : e_E X (d + 1) YL_spare [.inr (.inr 1), .inl p0, .inl p1, .inr (.inr 557)] (557, gn, e_RF, M) (.inl (some (.inl 0)), (557, gn, e_RF, e_up M1 557 0 v)) := by
  show e_G X (d + 1) YL_spare 0 [some (.inr (.inr 1)), some (.inl p0), some (.inl p1), some (.inr (.inr 557)), none] [] (557, gn, e_RF, M) _
  refine e_r_aload_n (pc' := 1) (by decide) dL_spare_0 rfl rfl rfl ?_
  refine e_r_iconst (pc' := 2) dL_spare_1 rfl (by decide) ?_
  refine e_r_aload_n (pc' := 3) (by decide) dL_spare_2 rfl rfl rfl ?_
  refine e_r_iload_n (pc' := 4) dL_spare_3 rfl rfl rfl ?_
  refine e_r_iload_n (pc' := 5) dL_spare_4 rfl rfl rfl ?_
  refine e_r_callV (a := 1) (av := [.inl p0, .inl p1]) (st := [.inl 0, .inr (.inr 557)]) mqYX10_spare ml_RL_88 cl_10 rfl (Nat.le_of_ble_eq_true rfl) (by simp [e_cat]) rfl rfl rfl dL_spare_5 (pc' := 8) rfl hE ⟨Nat.le_refl _, Nat.le_refl _⟩ ⟨Nat.le_refl _, Nat.le_refl _⟩ ?_
  refine e_r_i2l (pc' := 9) dL_spare_8 rfl ?_
  refine e_r_last (j9 := 0) (pc' := 10) rfl (Nat.le_of_ble_eq_true rfl) (by decide) (by decide) rfl dL_spare_9 rfl ?_
  refine e_r_goto (pc' := 21) dL_spare_10 rfl ?_
  refine e_r_iconst (pc' := 22) dL_spare_21 rfl (by decide) ?_
  exact e_r_iret (ty := .int) rfl (e_nI _) dL_spare_22 rfl
theorem hx_L_spare_0 {X : e_X} {d gn : Nat} {M M1 : e_M} {p0 p1 : Int} (hE : e_E X d YX10_spare [.inr (.inr 1), .inl p0, .inl p1] (557, gn, e_RF, M) (.inr 0, (557, gn + 1, e_RF, M1))) : e_E X (d + 1) YL_spare [.inr (.inr 1), .inl p0, .inl p1, .inr (.inr 557)] (557, gn, e_RF, M) (.inl (some (.inl 1)), (557, gn + 1, e_RF, M1)) := by
  show e_G X (d + 1) YL_spare 0 [some (.inr (.inr 1)), some (.inl p0), some (.inl p1), some (.inr (.inr 557)), none] [] (557, gn, e_RF, M) _
  refine e_r_aload_n (pc' := 1) (by decide) dL_spare_0 rfl rfl rfl ?_
  refine e_r_iconst (pc' := 2) dL_spare_1 rfl (by decide) ?_
  refine e_r_aload_n (pc' := 3) (by decide) dL_spare_2 rfl rfl rfl ?_
  refine e_r_iload_n (pc' := 4) dL_spare_3 rfl rfl rfl ?_
  refine e_r_iload_n (pc' := 5) dL_spare_4 rfl rfl rfl ?_
  refine e_r_callVc (a := 1) (av := [.inl p0, .inl p1]) (st := [.inl 0, .inr (.inr 557)]) mqYX10_spare ml_RL_88 cl_10 rfl (Nat.le_of_ble_eq_true rfl) (by simp [e_cat]) rfl rfl rfl dL_spare_5 (pre := []) (x := (0, 10, 13, 31)) (suf := [(0, 10, 17, 13)]) rfl (fun y hy => by cases hy) ⟨by decide, by decide⟩ (by decide) kx_31 ca_0 (i := 4) (loc' := [some (.inr (.inr 1)), some (.inl p0), some (.inl p1), some (.inr (.inr 557)), none]) (pc' := 15) (Or.inl ⟨dL_spare_13, rfl⟩) rfl rfl rfl hE ⟨Nat.le_refl _, Nat.le_succ _⟩ ⟨Nat.le_refl _, Nat.le_refl _⟩ ?_
  refine e_r_iconst (pc' := 16) dL_spare_15 rfl (by decide) ?_
  exact e_r_iret (ty := .int) rfl (e_nI _) dL_spare_16 rfl
theorem hx_L_spare_1 {X : e_X} {d gn : Nat} {M M1 : e_M} {p0 p1 : Int} (hE : e_E X d YX10_spare [.inr (.inr 1), .inl p0, .inl p1] (557, gn, e_RF, M) (.inr 1, (557, gn + 1, e_RF, M1))) : e_E X (d + 1) YL_spare [.inr (.inr 1), .inl p0, .inl p1, .inr (.inr 557)] (557, gn, e_RF, M) (.inl (some (.inl 2)), (557, gn + 1, e_RF, M1)) := by
  show e_G X (d + 1) YL_spare 0 [some (.inr (.inr 1)), some (.inl p0), some (.inl p1), some (.inr (.inr 557)), none] [] (557, gn, e_RF, M) _
  refine e_r_aload_n (pc' := 1) (by decide) dL_spare_0 rfl rfl rfl ?_
  refine e_r_iconst (pc' := 2) dL_spare_1 rfl (by decide) ?_
  refine e_r_aload_n (pc' := 3) (by decide) dL_spare_2 rfl rfl rfl ?_
  refine e_r_iload_n (pc' := 4) dL_spare_3 rfl rfl rfl ?_
  refine e_r_iload_n (pc' := 5) dL_spare_4 rfl rfl rfl ?_
  refine e_r_callVc (a := 1) (av := [.inl p0, .inl p1]) (st := [.inl 0, .inr (.inr 557)]) mqYX10_spare ml_RL_88 cl_10 rfl (Nat.le_of_ble_eq_true rfl) (by simp [e_cat]) rfl rfl rfl dL_spare_5 (pre := [(0, 10, 13, 31)]) (x := (0, 10, 17, 13)) (suf := []) rfl (fun y hy => by rcases List.mem_singleton.mp hy with rfl; exact ⟨by decide, _, kx_31, rfl, rfl⟩) ⟨by decide, by decide⟩ (by decide) kx_13 ca_1 (i := 4) (loc' := [some (.inr (.inr 1)), some (.inl p0), some (.inl p1), some (.inr (.inr 557)), none]) (pc' := 19) (Or.inl ⟨dL_spare_17, rfl⟩) rfl rfl rfl hE ⟨Nat.le_refl _, Nat.le_succ _⟩ ⟨Nat.le_refl _, Nat.le_refl _⟩ ?_
  refine e_r_iconst (pc' := 20) dL_spare_19 rfl (by decide) ?_
  exact e_r_iret (ty := .int) rfl (e_nI _) dL_spare_20 rfl
theorem hl_L_cheapest {X : e_X} {d gn : Nat} {M M1 : e_M} {p0 : Int} {v : Int} (hE : e_E X d YX10_cheapest [.inr (.inr 1), .inl p0] (557, gn, e_RF, M) (.inl (some (.inl v)), (557, gn, e_RF, M1))) : e_E X (d + 1) YL_cheapest [.inr (.inr 1), .inl p0, .inr (.inr 557)] (557, gn, e_RF, M) (.inl (some (.inl 0)), (557, gn, e_RF, e_up M1 557 0 v)) := by
  show e_G X (d + 1) YL_cheapest 0 [some (.inr (.inr 1)), some (.inl p0), some (.inr (.inr 557)), none] [] (557, gn, e_RF, M) _
  refine e_r_aload_n (pc' := 1) (by decide) dL_cheapest_0 rfl rfl rfl ?_
  refine e_r_iconst (pc' := 2) dL_cheapest_1 rfl (by decide) ?_
  refine e_r_aload_n (pc' := 3) (by decide) dL_cheapest_2 rfl rfl rfl ?_
  refine e_r_iload_n (pc' := 4) dL_cheapest_3 rfl rfl rfl ?_
  refine e_r_callV (a := 1) (av := [.inl p0]) (st := [.inl 0, .inr (.inr 557)]) mqYX10_cheapest ml_RL_91 cl_10 rfl (Nat.le_of_ble_eq_true rfl) (by simp [e_cat]) rfl rfl rfl dL_cheapest_4 (pc' := 7) rfl hE ⟨Nat.le_refl _, Nat.le_refl _⟩ ⟨Nat.le_refl _, Nat.le_refl _⟩ ?_
  refine e_r_i2l (pc' := 8) dL_cheapest_7 rfl ?_
  refine e_r_last (j9 := 0) (pc' := 9) rfl (Nat.le_of_ble_eq_true rfl) (by decide) (by decide) rfl dL_cheapest_8 rfl ?_
  refine e_r_goto (pc' := 15) dL_cheapest_9 rfl ?_
  refine e_r_iconst (pc' := 16) dL_cheapest_15 rfl (by decide) ?_
  exact e_r_iret (ty := .int) rfl (e_nI _) dL_cheapest_16 rfl
theorem hx_L_cheapest_1 {X : e_X} {d gn : Nat} {M M1 : e_M} {p0 : Int} (hE : e_E X d YX10_cheapest [.inr (.inr 1), .inl p0] (557, gn, e_RF, M) (.inr 1, (557, gn + 1, e_RF, M1))) : e_E X (d + 1) YL_cheapest [.inr (.inr 1), .inl p0, .inr (.inr 557)] (557, gn, e_RF, M) (.inl (some (.inl 1)), (557, gn + 1, e_RF, M1)) := by
  show e_G X (d + 1) YL_cheapest 0 [some (.inr (.inr 1)), some (.inl p0), some (.inr (.inr 557)), none] [] (557, gn, e_RF, M) _
  refine e_r_aload_n (pc' := 1) (by decide) dL_cheapest_0 rfl rfl rfl ?_
  refine e_r_iconst (pc' := 2) dL_cheapest_1 rfl (by decide) ?_
  refine e_r_aload_n (pc' := 3) (by decide) dL_cheapest_2 rfl rfl rfl ?_
  refine e_r_iload_n (pc' := 4) dL_cheapest_3 rfl rfl rfl ?_
  refine e_r_callVc (a := 1) (av := [.inl p0]) (st := [.inl 0, .inr (.inr 557)]) mqYX10_cheapest ml_RL_91 cl_10 rfl (Nat.le_of_ble_eq_true rfl) (by simp [e_cat]) rfl rfl rfl dL_cheapest_4 (pre := []) (x := (0, 9, 12, 13)) (suf := []) rfl (fun y hy => by cases hy) ⟨by decide, by decide⟩ (by decide) kx_13 ca_1 (i := 3) (loc' := [some (.inr (.inr 1)), some (.inl p0), some (.inr (.inr 557)), none]) (pc' := 13) (Or.inr ⟨3, dL_cheapest_12, rfl, rfl⟩) rfl rfl rfl hE ⟨Nat.le_refl _, Nat.le_succ _⟩ ⟨Nat.le_refl _, Nat.le_refl _⟩ ?_
  refine e_r_iconst (pc' := 14) dL_cheapest_13 rfl (by decide) ?_
  exact e_r_iret (ty := .int) rfl (e_nI _) dL_cheapest_14 rfl
theorem hl_L_crowd {X : e_X} {d gn : Nat} {M M1 : e_M} {p0 : Int} {v : Int} (hE : e_E X d YX10_crowd [.inr (.inr 1), .inl p0] (557, gn, e_RF, M) (.inl (some (.inl v)), (557, gn, e_RF, M1))) : e_E X (d + 1) YL_crowd [.inr (.inr 1), .inl p0, .inr (.inr 557)] (557, gn, e_RF, M) (.inl (some (.inl 0)), (557, gn, e_RF, e_up M1 557 0 v)) := by
  show e_G X (d + 1) YL_crowd 0 [some (.inr (.inr 1)), some (.inl p0), some (.inr (.inr 557)), none] [] (557, gn, e_RF, M) _
  refine e_r_aload_n (pc' := 1) (by decide) dL_crowd_0 rfl rfl rfl ?_
  refine e_r_iconst (pc' := 2) dL_crowd_1 rfl (by decide) ?_
  refine e_r_aload_n (pc' := 3) (by decide) dL_crowd_2 rfl rfl rfl ?_
  refine e_r_iload_n (pc' := 4) dL_crowd_3 rfl rfl rfl ?_
  refine e_r_callV (a := 1) (av := [.inl p0]) (st := [.inl 0, .inr (.inr 557)]) mqYX10_crowd ml_RL_94 cl_10 rfl (Nat.le_of_ble_eq_true rfl) (by simp [e_cat]) rfl rfl rfl dL_crowd_4 (pc' := 7) rfl hE ⟨Nat.le_refl _, Nat.le_refl _⟩ ⟨Nat.le_refl _, Nat.le_refl _⟩ ?_
  refine e_r_i2l (pc' := 8) dL_crowd_7 rfl ?_
  refine e_r_last (j9 := 0) (pc' := 9) rfl (Nat.le_of_ble_eq_true rfl) (by decide) (by decide) rfl dL_crowd_8 rfl ?_
  refine e_r_goto (pc' := 15) dL_crowd_9 rfl ?_
  refine e_r_iconst (pc' := 16) dL_crowd_15 rfl (by decide) ?_
  exact e_r_iret (ty := .int) rfl (e_nI _) dL_crowd_16 rfl
theorem hx_L_crowd_1 {X : e_X} {d gn : Nat} {M M1 : e_M} {p0 : Int} (hE : e_E X d YX10_crowd [.inr (.inr 1), .inl p0] (557, gn, e_RF, M) (.inr 1, (557, gn + 1, e_RF, M1))) : e_E X (d + 1) YL_crowd [.inr (.inr 1), .inl p0, .inr (.inr 557)] (557, gn, e_RF, M) (.inl (some (.inl 1)), (557, gn + 1, e_RF, M1)) := by
  show e_G X (d + 1) YL_crowd 0 [some (.inr (.inr 1)), some (.inl p0), some (.inr (.inr 557)), none] [] (557, gn, e_RF, M) _
  refine e_r_aload_n (pc' := 1) (by decide) dL_crowd_0 rfl rfl rfl ?_
  refine e_r_iconst (pc' := 2) dL_crowd_1 rfl (by decide) ?_
  refine e_r_aload_n (pc' := 3) (by decide) dL_crowd_2 rfl rfl rfl ?_
  refine e_r_iload_n (pc' := 4) dL_crowd_3 rfl rfl rfl ?_
  refine e_r_callVc (a := 1) (av := [.inl p0]) (st := [.inl 0, .inr (.inr 557)]) mqYX10_crowd ml_RL_94 cl_10 rfl (Nat.le_of_ble_eq_true rfl) (by simp [e_cat]) rfl rfl rfl dL_crowd_4 (pre := []) (x := (0, 9, 12, 13)) (suf := []) rfl (fun y hy => by cases hy) ⟨by decide, by decide⟩ (by decide) kx_13 ca_1 (i := 3) (loc' := [some (.inr (.inr 1)), some (.inl p0), some (.inr (.inr 557)), none]) (pc' := 13) (Or.inr ⟨3, dL_crowd_12, rfl, rfl⟩) rfl rfl rfl hE ⟨Nat.le_refl _, Nat.le_succ _⟩ ⟨Nat.le_refl _, Nat.le_refl _⟩ ?_
  refine e_r_iconst (pc' := 14) dL_crowd_13 rfl (by decide) ?_
  exact e_r_iret (ty := .int) rfl (e_nI _) dL_crowd_14 rfl
theorem hl_L_clear {X : e_X} {d gn : Nat} {M M1 : e_M} {p0 p1 : Int} {v : Int} (hE : e_E X d YX10_clear [.inr (.inr 1), .inl p0, .inl p1] (557, gn, e_RF, M) (.inl (some (.inl v)), (557, gn, e_RF, M1))) : e_E X (d + 1) YL_clear [.inr (.inr 1), .inl p0, .inl p1, .inr (.inr 557)] (557, gn, e_RF, M) (.inl (some (.inl 0)), (557, gn, e_RF, e_up M1 557 0 v)) := by
  show e_G X (d + 1) YL_clear 0 [some (.inr (.inr 1)), some (.inl p0), some (.inl p1), some (.inr (.inr 557)), none] [] (557, gn, e_RF, M) _
  refine e_r_aload_n (pc' := 1) (by decide) dL_clear_0 rfl rfl rfl ?_
  refine e_r_iconst (pc' := 2) dL_clear_1 rfl (by decide) ?_
  refine e_r_aload_n (pc' := 3) (by decide) dL_clear_2 rfl rfl rfl ?_
  refine e_r_iload_n (pc' := 4) dL_clear_3 rfl rfl rfl ?_
  refine e_r_iload_n (pc' := 5) dL_clear_4 rfl rfl rfl ?_
  refine e_r_callV (a := 1) (av := [.inl p0, .inl p1]) (st := [.inl 0, .inr (.inr 557)]) mqYX10_clear ml_RL_97 cl_10 rfl (Nat.le_of_ble_eq_true rfl) (by simp [e_cat]) rfl rfl rfl dL_clear_5 (pc' := 8) rfl hE ⟨Nat.le_refl _, Nat.le_refl _⟩ ⟨Nat.le_refl _, Nat.le_refl _⟩ ?_
  refine e_r_i2l (pc' := 9) dL_clear_8 rfl ?_
  refine e_r_last (j9 := 0) (pc' := 10) rfl (Nat.le_of_ble_eq_true rfl) (by decide) (by decide) rfl dL_clear_9 rfl ?_
  refine e_r_goto (pc' := 21) dL_clear_10 rfl ?_
  refine e_r_iconst (pc' := 22) dL_clear_21 rfl (by decide) ?_
  exact e_r_iret (ty := .int) rfl (e_nI _) dL_clear_22 rfl
theorem hx_L_clear_0 {X : e_X} {d gn : Nat} {M M1 : e_M} {p0 p1 : Int} (hE : e_E X d YX10_clear [.inr (.inr 1), .inl p0, .inl p1] (557, gn, e_RF, M) (.inr 0, (557, gn + 1, e_RF, M1))) : e_E X (d + 1) YL_clear [.inr (.inr 1), .inl p0, .inl p1, .inr (.inr 557)] (557, gn, e_RF, M) (.inl (some (.inl 1)), (557, gn + 1, e_RF, M1)) := by
  show e_G X (d + 1) YL_clear 0 [some (.inr (.inr 1)), some (.inl p0), some (.inl p1), some (.inr (.inr 557)), none] [] (557, gn, e_RF, M) _
  refine e_r_aload_n (pc' := 1) (by decide) dL_clear_0 rfl rfl rfl ?_
  refine e_r_iconst (pc' := 2) dL_clear_1 rfl (by decide) ?_
  refine e_r_aload_n (pc' := 3) (by decide) dL_clear_2 rfl rfl rfl ?_
  refine e_r_iload_n (pc' := 4) dL_clear_3 rfl rfl rfl ?_
  refine e_r_iload_n (pc' := 5) dL_clear_4 rfl rfl rfl ?_
  refine e_r_callVc (a := 1) (av := [.inl p0, .inl p1]) (st := [.inl 0, .inr (.inr 557)]) mqYX10_clear ml_RL_97 cl_10 rfl (Nat.le_of_ble_eq_true rfl) (by simp [e_cat]) rfl rfl rfl dL_clear_5 (pre := []) (x := (0, 10, 13, 31)) (suf := [(0, 10, 17, 13)]) rfl (fun y hy => by cases hy) ⟨by decide, by decide⟩ (by decide) kx_31 ca_0 (i := 4) (loc' := [some (.inr (.inr 1)), some (.inl p0), some (.inl p1), some (.inr (.inr 557)), none]) (pc' := 15) (Or.inl ⟨dL_clear_13, rfl⟩) rfl rfl rfl hE ⟨Nat.le_refl _, Nat.le_succ _⟩ ⟨Nat.le_refl _, Nat.le_refl _⟩ ?_
  refine e_r_iconst (pc' := 16) dL_clear_15 rfl (by decide) ?_
  exact e_r_iret (ty := .int) rfl (e_nI _) dL_clear_16 rfl
theorem hx_L_clear_1 {X : e_X} {d gn : Nat} {M M1 : e_M} {p0 p1 : Int} (hE : e_E X d YX10_clear [.inr (.inr 1), .inl p0, .inl p1] (557, gn, e_RF, M) (.inr 1, (557, gn + 1, e_RF, M1))) : e_E X (d + 1) YL_clear [.inr (.inr 1), .inl p0, .inl p1, .inr (.inr 557)] (557, gn, e_RF, M) (.inl (some (.inl 2)), (557, gn + 1, e_RF, M1)) := by
  show e_G X (d + 1) YL_clear 0 [some (.inr (.inr 1)), some (.inl p0), some (.inl p1), some (.inr (.inr 557)), none] [] (557, gn, e_RF, M) _
  refine e_r_aload_n (pc' := 1) (by decide) dL_clear_0 rfl rfl rfl ?_
  refine e_r_iconst (pc' := 2) dL_clear_1 rfl (by decide) ?_
  refine e_r_aload_n (pc' := 3) (by decide) dL_clear_2 rfl rfl rfl ?_
  refine e_r_iload_n (pc' := 4) dL_clear_3 rfl rfl rfl ?_
  refine e_r_iload_n (pc' := 5) dL_clear_4 rfl rfl rfl ?_
  refine e_r_callVc (a := 1) (av := [.inl p0, .inl p1]) (st := [.inl 0, .inr (.inr 557)]) mqYX10_clear ml_RL_97 cl_10 rfl (Nat.le_of_ble_eq_true rfl) (by simp [e_cat]) rfl rfl rfl dL_clear_5 (pre := [(0, 10, 13, 31)]) (x := (0, 10, 17, 13)) (suf := []) rfl (fun y hy => by rcases List.mem_singleton.mp hy with rfl; exact ⟨by decide, _, kx_31, rfl, rfl⟩) ⟨by decide, by decide⟩ (by decide) kx_13 ca_1 (i := 4) (loc' := [some (.inr (.inr 1)), some (.inl p0), some (.inl p1), some (.inr (.inr 557)), none]) (pc' := 19) (Or.inl ⟨dL_clear_17, rfl⟩) rfl rfl rfl hE ⟨Nat.le_refl _, Nat.le_succ _⟩ ⟨Nat.le_refl _, Nat.le_refl _⟩ ?_
  refine e_r_iconst (pc' := 20) dL_clear_19 rfl (by decide) ?_
  exact e_r_iret (ty := .int) rfl (e_nI _) dL_clear_20 rfl
theorem hl_L_richest {X : e_X} {d gn : Nat} {M M1 : e_M} {p0 : Int} {v : Int} (hE : e_E X d YX10_richest [.inr (.inr 1), .inl p0] (557, gn, e_RF, M) (.inl (some (.inl v)), (557, gn, e_RF, M1))) : e_E X (d + 1) YL_richest [.inr (.inr 1), .inl p0, .inr (.inr 557)] (557, gn, e_RF, M) (.inl (some (.inl 0)), (557, gn, e_RF, e_up M1 557 0 v)) := by
  show e_G X (d + 1) YL_richest 0 [some (.inr (.inr 1)), some (.inl p0), some (.inr (.inr 557)), none] [] (557, gn, e_RF, M) _
  refine e_r_aload_n (pc' := 1) (by decide) dL_richest_0 rfl rfl rfl ?_
  refine e_r_iconst (pc' := 2) dL_richest_1 rfl (by decide) ?_
  refine e_r_aload_n (pc' := 3) (by decide) dL_richest_2 rfl rfl rfl ?_
  refine e_r_iload_n (pc' := 4) dL_richest_3 rfl rfl rfl ?_
  refine e_r_callV (a := 1) (av := [.inl p0]) (st := [.inl 0, .inr (.inr 557)]) mqYX10_richest ml_RL_100 cl_10 rfl (Nat.le_of_ble_eq_true rfl) (by simp [e_cat]) rfl rfl rfl dL_richest_4 (pc' := 7) rfl hE ⟨Nat.le_refl _, Nat.le_refl _⟩ ⟨Nat.le_refl _, Nat.le_refl _⟩ ?_
  refine e_r_i2l (pc' := 8) dL_richest_7 rfl ?_
  refine e_r_last (j9 := 0) (pc' := 9) rfl (Nat.le_of_ble_eq_true rfl) (by decide) (by decide) rfl dL_richest_8 rfl ?_
  refine e_r_goto (pc' := 15) dL_richest_9 rfl ?_
  refine e_r_iconst (pc' := 16) dL_richest_15 rfl (by decide) ?_
  exact e_r_iret (ty := .int) rfl (e_nI _) dL_richest_16 rfl
theorem hx_L_richest_1 {X : e_X} {d gn : Nat} {M M1 : e_M} {p0 : Int} (hE : e_E X d YX10_richest [.inr (.inr 1), .inl p0] (557, gn, e_RF, M) (.inr 1, (557, gn + 1, e_RF, M1))) : e_E X (d + 1) YL_richest [.inr (.inr 1), .inl p0, .inr (.inr 557)] (557, gn, e_RF, M) (.inl (some (.inl 1)), (557, gn + 1, e_RF, M1)) := by
  show e_G X (d + 1) YL_richest 0 [some (.inr (.inr 1)), some (.inl p0), some (.inr (.inr 557)), none] [] (557, gn, e_RF, M) _
  refine e_r_aload_n (pc' := 1) (by decide) dL_richest_0 rfl rfl rfl ?_
  refine e_r_iconst (pc' := 2) dL_richest_1 rfl (by decide) ?_
  refine e_r_aload_n (pc' := 3) (by decide) dL_richest_2 rfl rfl rfl ?_
  refine e_r_iload_n (pc' := 4) dL_richest_3 rfl rfl rfl ?_
  refine e_r_callVc (a := 1) (av := [.inl p0]) (st := [.inl 0, .inr (.inr 557)]) mqYX10_richest ml_RL_100 cl_10 rfl (Nat.le_of_ble_eq_true rfl) (by simp [e_cat]) rfl rfl rfl dL_richest_4 (pre := []) (x := (0, 9, 12, 13)) (suf := []) rfl (fun y hy => by cases hy) ⟨by decide, by decide⟩ (by decide) kx_13 ca_1 (i := 3) (loc' := [some (.inr (.inr 1)), some (.inl p0), some (.inr (.inr 557)), none]) (pc' := 13) (Or.inr ⟨3, dL_richest_12, rfl, rfl⟩) rfl rfl rfl hE ⟨Nat.le_refl _, Nat.le_succ _⟩ ⟨Nat.le_refl _, Nat.le_refl _⟩ ?_
  refine e_r_iconst (pc' := 14) dL_richest_13 rfl (by decide) ?_
  exact e_r_iret (ty := .int) rfl (e_nI _) dL_richest_14 rfl
theorem hl_L_back {X : e_X} {d gn : Nat} {M M1 : e_M} {p0 : Int} {v : Int} (hE : e_E X d YX10_back [.inr (.inr 1), .inl p0] (557, gn, e_RF, M) (.inl (some (.inl v)), (557, gn, e_RF, M1))) : e_E X (d + 1) YL_back [.inr (.inr 1), .inl p0, .inr (.inr 557)] (557, gn, e_RF, M) (.inl (some (.inl 0)), (557, gn, e_RF, e_up M1 557 0 v)) := by
  show e_G X (d + 1) YL_back 0 [some (.inr (.inr 1)), some (.inl p0), some (.inr (.inr 557)), none] [] (557, gn, e_RF, M) _
  refine e_r_aload_n (pc' := 1) (by decide) dL_back_0 rfl rfl rfl ?_
  refine e_r_iconst (pc' := 2) dL_back_1 rfl (by decide) ?_
  refine e_r_aload_n (pc' := 3) (by decide) dL_back_2 rfl rfl rfl ?_
  refine e_r_iload_n (pc' := 4) dL_back_3 rfl rfl rfl ?_
  refine e_r_callV (a := 1) (av := [.inl p0]) (st := [.inl 0, .inr (.inr 557)]) mqYX10_back ml_RL_103 cl_10 rfl (Nat.le_of_ble_eq_true rfl) (by simp [e_cat]) rfl rfl rfl dL_back_4 (pc' := 7) rfl hE ⟨Nat.le_refl _, Nat.le_refl _⟩ ⟨Nat.le_refl _, Nat.le_refl _⟩ ?_
  refine e_r_i2l (pc' := 8) dL_back_7 rfl ?_
  refine e_r_last (j9 := 0) (pc' := 9) rfl (Nat.le_of_ble_eq_true rfl) (by decide) (by decide) rfl dL_back_8 rfl ?_
  refine e_r_goto (pc' := 15) dL_back_9 rfl ?_
  refine e_r_iconst (pc' := 16) dL_back_15 rfl (by decide) ?_
  exact e_r_iret (ty := .int) rfl (e_nI _) dL_back_16 rfl
theorem hx_L_back_0 {X : e_X} {d gn : Nat} {M M1 : e_M} {p0 : Int} (hE : e_E X d YX10_back [.inr (.inr 1), .inl p0] (557, gn, e_RF, M) (.inr 0, (557, gn + 1, e_RF, M1))) : e_E X (d + 1) YL_back [.inr (.inr 1), .inl p0, .inr (.inr 557)] (557, gn, e_RF, M) (.inl (some (.inl 1)), (557, gn + 1, e_RF, M1)) := by
  show e_G X (d + 1) YL_back 0 [some (.inr (.inr 1)), some (.inl p0), some (.inr (.inr 557)), none] [] (557, gn, e_RF, M) _
  refine e_r_aload_n (pc' := 1) (by decide) dL_back_0 rfl rfl rfl ?_
  refine e_r_iconst (pc' := 2) dL_back_1 rfl (by decide) ?_
  refine e_r_aload_n (pc' := 3) (by decide) dL_back_2 rfl rfl rfl ?_
  refine e_r_iload_n (pc' := 4) dL_back_3 rfl rfl rfl ?_
  refine e_r_callVc (a := 1) (av := [.inl p0]) (st := [.inl 0, .inr (.inr 557)]) mqYX10_back ml_RL_103 cl_10 rfl (Nat.le_of_ble_eq_true rfl) (by simp [e_cat]) rfl rfl rfl dL_back_4 (pre := []) (x := (0, 9, 12, 31)) (suf := []) rfl (fun y hy => by cases hy) ⟨by decide, by decide⟩ (by decide) kx_31 ca_0 (i := 3) (loc' := [some (.inr (.inr 1)), some (.inl p0), some (.inr (.inr 557)), none]) (pc' := 13) (Or.inr ⟨3, dL_back_12, rfl, rfl⟩) rfl rfl rfl hE ⟨Nat.le_refl _, Nat.le_succ _⟩ ⟨Nat.le_refl _, Nat.le_refl _⟩ ?_
  refine e_r_iconst (pc' := 14) dL_back_13 rfl (by decide) ?_
  exact e_r_iret (ty := .int) rfl (e_nI _) dL_back_14 rfl
theorem hl_L_loses {X : e_X} {d gn : Nat} {M M1 : e_M} {p0 : Int} {v : Int} (hE : e_E X d YX10_loses [.inr (.inr 1), .inl p0] (557, gn, e_RF, M) (.inl (some (.inl v)), (557, gn, e_RF, M1))) : e_E X (d + 1) YL_loses [.inr (.inr 1), .inl p0, .inr (.inr 557)] (557, gn, e_RF, M) (.inl (some (.inl 0)), (557, gn, e_RF, e_up M1 557 0 v)) := by
  show e_G X (d + 1) YL_loses 0 [some (.inr (.inr 1)), some (.inl p0), some (.inr (.inr 557)), none] [] (557, gn, e_RF, M) _
  refine e_r_aload_n (pc' := 1) (by decide) dL_loses_0 rfl rfl rfl ?_
  refine e_r_iconst (pc' := 2) dL_loses_1 rfl (by decide) ?_
  refine e_r_aload_n (pc' := 3) (by decide) dL_loses_2 rfl rfl rfl ?_
  refine e_r_iload_n (pc' := 4) dL_loses_3 rfl rfl rfl ?_
  refine e_r_callV (a := 1) (av := [.inl p0]) (st := [.inl 0, .inr (.inr 557)]) mqYX10_loses ml_RL_106 cl_10 rfl (Nat.le_of_ble_eq_true rfl) (by simp [e_cat]) rfl rfl rfl dL_loses_4 (pc' := 7) rfl hE ⟨Nat.le_refl _, Nat.le_refl _⟩ ⟨Nat.le_refl _, Nat.le_refl _⟩ ?_
  refine e_r_i2l (pc' := 8) dL_loses_7 rfl ?_
  refine e_r_last (j9 := 0) (pc' := 9) rfl (Nat.le_of_ble_eq_true rfl) (by decide) (by decide) rfl dL_loses_8 rfl ?_
  refine e_r_goto (pc' := 15) dL_loses_9 rfl ?_
  refine e_r_iconst (pc' := 16) dL_loses_15 rfl (by decide) ?_
  exact e_r_iret (ty := .int) rfl (e_nI _) dL_loses_16 rfl
theorem hx_L_loses_1 {X : e_X} {d gn : Nat} {M M1 : e_M} {p0 : Int} (hE : e_E X d YX10_loses [.inr (.inr 1), .inl p0] (557, gn, e_RF, M) (.inr 1, (557, gn + 1, e_RF, M1))) : e_E X (d + 1) YL_loses [.inr (.inr 1), .inl p0, .inr (.inr 557)] (557, gn, e_RF, M) (.inl (some (.inl 1)), (557, gn + 1, e_RF, M1)) := by
  show e_G X (d + 1) YL_loses 0 [some (.inr (.inr 1)), some (.inl p0), some (.inr (.inr 557)), none] [] (557, gn, e_RF, M) _
  refine e_r_aload_n (pc' := 1) (by decide) dL_loses_0 rfl rfl rfl ?_
  refine e_r_iconst (pc' := 2) dL_loses_1 rfl (by decide) ?_
  refine e_r_aload_n (pc' := 3) (by decide) dL_loses_2 rfl rfl rfl ?_
  refine e_r_iload_n (pc' := 4) dL_loses_3 rfl rfl rfl ?_
  refine e_r_callVc (a := 1) (av := [.inl p0]) (st := [.inl 0, .inr (.inr 557)]) mqYX10_loses ml_RL_106 cl_10 rfl (Nat.le_of_ble_eq_true rfl) (by simp [e_cat]) rfl rfl rfl dL_loses_4 (pre := []) (x := (0, 9, 12, 13)) (suf := []) rfl (fun y hy => by cases hy) ⟨by decide, by decide⟩ (by decide) kx_13 ca_1 (i := 3) (loc' := [some (.inr (.inr 1)), some (.inl p0), some (.inr (.inr 557)), none]) (pc' := 13) (Or.inr ⟨3, dL_loses_12, rfl, rfl⟩) rfl rfl rfl hE ⟨Nat.le_refl _, Nat.le_succ _⟩ ⟨Nat.le_refl _, Nat.le_refl _⟩ ?_
  refine e_r_iconst (pc' := 14) dL_loses_13 rfl (by decide) ?_
  exact e_r_iret (ty := .int) rfl (e_nI _) dL_loses_14 rfl
theorem hl_L_year {X : e_X} {d gn : Nat} {M M1 : e_M} {p0 p1 p2 p3 p4 : Int} {v : Int} (hE : e_E X d YX10_year [.inr (.inr 1), .inl p0, .inl p1, .inl p2, .inl p3, .inl p4] (557, gn, e_RF, M) (.inl (some (.inl v)), (557, gn, e_RF, M1))) : e_E X (d + 1) YL_year [.inr (.inr 1), .inl p0, .inl p1, .inl p2, .inl p3, .inl p4, .inr (.inr 557)] (557, gn, e_RF, M) (.inl (some (.inl 0)), (557, gn, e_RF, e_up M1 557 0 v)) := by
  show e_G X (d + 1) YL_year 0 [some (.inr (.inr 1)), some (.inl p0), some (.inl p1), some (.inl p2), some (.inl p3), some (.inl p4), some (.inr (.inr 557)), none] [] (557, gn, e_RF, M) _
  refine e_r_aload (pc' := 2) (by decide) dL_year_0 rfl rfl ?_
  refine e_r_iconst (pc' := 3) dL_year_2 rfl (by decide) ?_
  refine e_r_aload_n (pc' := 4) (by decide) dL_year_3 rfl rfl rfl ?_
  refine e_r_iload_n (pc' := 5) dL_year_4 rfl rfl rfl ?_
  refine e_r_iload_n (pc' := 6) dL_year_5 rfl rfl rfl ?_
  refine e_r_iload_n (pc' := 7) dL_year_6 rfl rfl rfl ?_
  refine e_r_iload (pc' := 9) dL_year_7 rfl rfl ?_
  refine e_r_iload (pc' := 11) dL_year_9 rfl rfl ?_
  refine e_r_callV (a := 1) (av := [.inl p0, .inl p1, .inl p2, .inl p3, .inl p4]) (st := [.inl 0, .inr (.inr 557)]) mqYX10_year ml_RL_109 cl_10 rfl (Nat.le_of_ble_eq_true rfl) (by simp [e_cat]) rfl rfl rfl dL_year_11 (pc' := 14) rfl hE ⟨Nat.le_refl _, Nat.le_refl _⟩ ⟨Nat.le_refl _, Nat.le_refl _⟩ ?_
  refine e_r_i2l (pc' := 15) dL_year_14 rfl ?_
  refine e_r_last (j9 := 0) (pc' := 16) rfl (Nat.le_of_ble_eq_true rfl) (by decide) (by decide) rfl dL_year_15 rfl ?_
  refine e_r_goto (pc' := 23) dL_year_16 rfl ?_
  refine e_r_iconst (pc' := 24) dL_year_23 rfl (by decide) ?_
  exact e_r_iret (ty := .int) rfl (e_nI _) dL_year_24 rfl
theorem hx_L_year_1 {X : e_X} {d gn : Nat} {M M1 : e_M} {p0 p1 p2 p3 p4 : Int} (hE : e_E X d YX10_year [.inr (.inr 1), .inl p0, .inl p1, .inl p2, .inl p3, .inl p4] (557, gn, e_RF, M) (.inr 1, (557, gn + 1, e_RF, M1))) : e_E X (d + 1) YL_year [.inr (.inr 1), .inl p0, .inl p1, .inl p2, .inl p3, .inl p4, .inr (.inr 557)] (557, gn, e_RF, M) (.inl (some (.inl 1)), (557, gn + 1, e_RF, M1)) := by
  show e_G X (d + 1) YL_year 0 [some (.inr (.inr 1)), some (.inl p0), some (.inl p1), some (.inl p2), some (.inl p3), some (.inl p4), some (.inr (.inr 557)), none] [] (557, gn, e_RF, M) _
  refine e_r_aload (pc' := 2) (by decide) dL_year_0 rfl rfl ?_
  refine e_r_iconst (pc' := 3) dL_year_2 rfl (by decide) ?_
  refine e_r_aload_n (pc' := 4) (by decide) dL_year_3 rfl rfl rfl ?_
  refine e_r_iload_n (pc' := 5) dL_year_4 rfl rfl rfl ?_
  refine e_r_iload_n (pc' := 6) dL_year_5 rfl rfl rfl ?_
  refine e_r_iload_n (pc' := 7) dL_year_6 rfl rfl rfl ?_
  refine e_r_iload (pc' := 9) dL_year_7 rfl rfl ?_
  refine e_r_iload (pc' := 11) dL_year_9 rfl rfl ?_
  refine e_r_callVc (a := 1) (av := [.inl p0, .inl p1, .inl p2, .inl p3, .inl p4]) (st := [.inl 0, .inr (.inr 557)]) mqYX10_year ml_RL_109 cl_10 rfl (Nat.le_of_ble_eq_true rfl) (by simp [e_cat]) rfl rfl rfl dL_year_11 (pre := []) (x := (0, 16, 19, 13)) (suf := []) rfl (fun y hy => by cases hy) ⟨by decide, by decide⟩ (by decide) kx_13 ca_1 (i := 7) (loc' := [some (.inr (.inr 1)), some (.inl p0), some (.inl p1), some (.inl p2), some (.inl p3), some (.inl p4), some (.inr (.inr 557)), none]) (pc' := 21) (Or.inl ⟨dL_year_19, rfl⟩) rfl rfl rfl hE ⟨Nat.le_refl _, Nat.le_succ _⟩ ⟨Nat.le_refl _, Nat.le_refl _⟩ ?_
  refine e_r_iconst (pc' := 22) dL_year_21 rfl (by decide) ?_
  exact e_r_iret (ty := .int) rfl (e_nI _) dL_year_22 rfl
theorem hl_L_span {X : e_X} {d gn : Nat} {M M1 : e_M} {p0 p1 p2 p3 p4 p5 p6 : Int} {v : Int} (hE : e_E X d YX10_span [.inr (.inr 1), .inl p0, .inl p1, .inl p2, .inl p3, .inl p4, .inl p5, .inl p6] (557, gn, e_RF, M) (.inl (some (.inl v)), (557, gn, e_RF, M1))) : e_E X (d + 1) YL_span [.inr (.inr 1), .inl p0, .inl p1, .inl p2, .inl p3, .inl p4, .inl p5, .inl p6, .inr (.inr 557)] (557, gn, e_RF, M) (.inl (some (.inl 0)), (557, gn, e_RF, e_up M1 557 0 v)) := by
  show e_G X (d + 1) YL_span 0 [some (.inr (.inr 1)), some (.inl p0), some (.inl p1), some (.inl p2), some (.inl p3), some (.inl p4), some (.inl p5), some (.inl p6), some (.inr (.inr 557)), none] [] (557, gn, e_RF, M) _
  refine e_r_aload (pc' := 2) (by decide) dL_span_0 rfl rfl ?_
  refine e_r_iconst (pc' := 3) dL_span_2 rfl (by decide) ?_
  refine e_r_aload_n (pc' := 4) (by decide) dL_span_3 rfl rfl rfl ?_
  refine e_r_iload_n (pc' := 5) dL_span_4 rfl rfl rfl ?_
  refine e_r_iload_n (pc' := 6) dL_span_5 rfl rfl rfl ?_
  refine e_r_iload_n (pc' := 7) dL_span_6 rfl rfl rfl ?_
  refine e_r_iload (pc' := 9) dL_span_7 rfl rfl ?_
  refine e_r_iload (pc' := 11) dL_span_9 rfl rfl ?_
  refine e_r_iload (pc' := 13) dL_span_11 rfl rfl ?_
  refine e_r_iload (pc' := 15) dL_span_13 rfl rfl ?_
  refine e_r_callV (a := 1) (av := [.inl p0, .inl p1, .inl p2, .inl p3, .inl p4, .inl p5, .inl p6]) (st := [.inl 0, .inr (.inr 557)]) mqYX10_span ml_RL_113 cl_10 rfl (Nat.le_of_ble_eq_true rfl) (by simp [e_cat]) rfl rfl rfl dL_span_15 (pc' := 18) rfl hE ⟨Nat.le_refl _, Nat.le_refl _⟩ ⟨Nat.le_refl _, Nat.le_refl _⟩ ?_
  refine e_r_i2l (pc' := 19) dL_span_18 rfl ?_
  refine e_r_last (j9 := 0) (pc' := 20) rfl (Nat.le_of_ble_eq_true rfl) (by decide) (by decide) rfl dL_span_19 rfl ?_
  refine e_r_goto (pc' := 27) dL_span_20 rfl ?_
  refine e_r_iconst (pc' := 28) dL_span_27 rfl (by decide) ?_
  exact e_r_iret (ty := .int) rfl (e_nI _) dL_span_28 rfl
theorem hx_L_span_1 {X : e_X} {d gn : Nat} {M M1 : e_M} {p0 p1 p2 p3 p4 p5 p6 : Int} (hE : e_E X d YX10_span [.inr (.inr 1), .inl p0, .inl p1, .inl p2, .inl p3, .inl p4, .inl p5, .inl p6] (557, gn, e_RF, M) (.inr 1, (557, gn + 1, e_RF, M1))) : e_E X (d + 1) YL_span [.inr (.inr 1), .inl p0, .inl p1, .inl p2, .inl p3, .inl p4, .inl p5, .inl p6, .inr (.inr 557)] (557, gn, e_RF, M) (.inl (some (.inl 1)), (557, gn + 1, e_RF, M1)) := by
  show e_G X (d + 1) YL_span 0 [some (.inr (.inr 1)), some (.inl p0), some (.inl p1), some (.inl p2), some (.inl p3), some (.inl p4), some (.inl p5), some (.inl p6), some (.inr (.inr 557)), none] [] (557, gn, e_RF, M) _
  refine e_r_aload (pc' := 2) (by decide) dL_span_0 rfl rfl ?_
  refine e_r_iconst (pc' := 3) dL_span_2 rfl (by decide) ?_
  refine e_r_aload_n (pc' := 4) (by decide) dL_span_3 rfl rfl rfl ?_
  refine e_r_iload_n (pc' := 5) dL_span_4 rfl rfl rfl ?_
  refine e_r_iload_n (pc' := 6) dL_span_5 rfl rfl rfl ?_
  refine e_r_iload_n (pc' := 7) dL_span_6 rfl rfl rfl ?_
  refine e_r_iload (pc' := 9) dL_span_7 rfl rfl ?_
  refine e_r_iload (pc' := 11) dL_span_9 rfl rfl ?_
  refine e_r_iload (pc' := 13) dL_span_11 rfl rfl ?_
  refine e_r_iload (pc' := 15) dL_span_13 rfl rfl ?_
  refine e_r_callVc (a := 1) (av := [.inl p0, .inl p1, .inl p2, .inl p3, .inl p4, .inl p5, .inl p6]) (st := [.inl 0, .inr (.inr 557)]) mqYX10_span ml_RL_113 cl_10 rfl (Nat.le_of_ble_eq_true rfl) (by simp [e_cat]) rfl rfl rfl dL_span_15 (pre := []) (x := (0, 20, 23, 13)) (suf := []) rfl (fun y hy => by cases hy) ⟨by decide, by decide⟩ (by decide) kx_13 ca_1 (i := 9) (loc' := [some (.inr (.inr 1)), some (.inl p0), some (.inl p1), some (.inl p2), some (.inl p3), some (.inl p4), some (.inl p5), some (.inl p6), some (.inr (.inr 557)), none]) (pc' := 25) (Or.inl ⟨dL_span_23, rfl⟩) rfl rfl rfl hE ⟨Nat.le_refl _, Nat.le_succ _⟩ ⟨Nat.le_refl _, Nat.le_refl _⟩ ?_
  refine e_r_iconst (pc' := 26) dL_span_25 rfl (by decide) ?_
  exact e_r_iret (ty := .int) rfl (e_nI _) dL_span_26 rfl
