theorem n_Rb_le : ∀ a j, n_Rb a j ≤ 63 := fun a j => Nat.min_le_right _ _
theorem n_Rc_le : ∀ a j, n_Rc a j ≤ 556 := fun a j => Nat.min_le_right _ _
theorem n_sb : ∀ a, 0 < a → a ≤ 63 → e_sm e_RF n_Rb (n_b 6) (n_b 6) a := by
  have h : ∀ a, a < 64 → 0 < a → ∀ j, j < (e_SH a).2 → ((20 ≤ (e_SH a).1 ∧ (e_SH a).1 < 23) ∨ ((e_SH a).1 < 20 ∧ e_isI (e_SH a).1 j = true) ∨ e_RF a j = n_Rb a j) := by decide +kernel
  intro a h0 h1 j hj
  have := h a (by omega) h0 j hj
  split
  · rename_i g1
    split
    · rfl
    · rename_i g2
      rcases this with q | q | q
      · omega
      · exact absurd q.2 g2
      · exact q
  · rename_i g1
    split
    · rfl
    · rename_i g2
      rcases this with q | q | q
      · omega
      · omega
      · exact q
theorem n_sc : ∀ a, 0 < a → a ≤ 556 → e_sm e_RF n_Rc (n_c 6) (n_c 6) a := by
  have h : ∀ a, a < 557 → 0 < a → ∀ j, j < (e_SH a).2 → ((20 ≤ (e_SH a).1 ∧ (e_SH a).1 < 23) ∨ ((e_SH a).1 < 20 ∧ e_isI (e_SH a).1 j = true) ∨ e_RF a j = n_Rc a j) := by decide +kernel
  intro a h0 h1 j hj
  have := h a (by omega) h0 j hj
  split
  · rename_i g1
    split
    · rfl
    · rename_i g2
      rcases this with q | q | q
      · omega
      · exact absurd q.2 g2
      · exact q
  · rename_i g1
    split
    · rfl
    · rename_i g2
      rcases this with q | q | q
      · omega
      · omega
      · exact q
theorem n_sd : ∀ a, 0 < a → a ≤ 557 → e_sm (e_zR n_Rc 557) e_RF (e_z (n_c 6) 557) (n_c 6) a := by
  have h : ∀ a, a < 558 → 0 < a → ∀ j, j < (e_SH a).2 → ((20 ≤ (e_SH a).1 ∧ (e_SH a).1 < 23) ∨ ((e_SH a).1 < 20 ∧ e_isI (e_SH a).1 j = true) ∨ e_zR n_Rc 557 a j = e_RF a j) := by decide +kernel
  have hm : e_z (n_c 6) 557 = n_c 6 := by
    funext b j
    unfold e_z
    split
    · rename_i q; subst q; rfl
    · rfl
  rw [hm]
  intro a h0 h1 j hj
  have := h a (by omega) h0 j hj
  split
  · rename_i g1
    split
    · rfl
    · rename_i g2
      rcases this with q | q | q
      · omega
      · exact absurd q.2 g2
      · exact q
  · rename_i g1
    split
    · rfl
    · rename_i g2
      rcases this with q | q | q
      · omega
      · omega
      · exact q
section NI
variable {X : e_X} {d gn : Nat}
theorem n_bs (k : Nat) (hk : k < 6) : e_up (e_up (e_up (e_up (e_up (n_b k) 37 k (n_b k 5 k)) 38 k 0) 39 k 0) 40 k (-1)) 41 k 0 = n_b (k + 1) := by
  have e1 : e_up (n_b k) 37 k (n_b k 5 k) = n_b k := up_same (by simp [n_b, n_0])
  have e2 : e_up (n_b k) 38 k 0 = n_b k := up_same (by simp [n_b, n_0])
  have e3 : e_up (n_b k) 39 k 0 = n_b k := up_same (by simp [n_b, n_0])
  have e4 : e_up (n_b k) 40 k (-1) = n_b (k + 1) := by
    funext a j
    unfold e_up n_b
    by_cases h : a = 40
    · subst h
      by_cases h2 : j = k
      · subst h2; simp
      · by_cases h3 : j < k
        · simp [h2, h3, Nat.lt_succ_of_lt h3]
        · have : ¬ j < k + 1 := by omega
          simp [h2, h3, this]
    · simp [h]
  have e5 : e_up (n_b (k + 1)) 41 k 0 = n_b (k + 1) := up_same (by simp [n_b, n_0])
  rw [e1, e2, e3, e4, e5]
theorem n_bl : ∀ n k : Nat, k + n = 6 → e_G X (d + 1) YX3_begin 17 [some (.inr (.inr 36)), some (.inl (k : Int))] [] (63, gn, e_RF, n_b k) (.inl none, (63, gn, e_RF, n_b 6)) := by
  intro n
  induction n with
  | zero =>
    intro k hk
    refine wg_X3_begin_now_17 (Nat.le_refl _) _ _ ⟨fun _ => ?_, fun q => absurd q (by omega)⟩
    have hk6 : k = 6 := by omega
    subst hk6
    have : e_cp (n_b 6) 10 0 42 0 12 = n_b 6 := by
      funext a j
      unfold e_cp
      split
      · rename_i h; subst h
        split
        · simp [n_b, n_0]
        · rfl
      · rfl
    rw [this]
  | succ n ih =>
    intro k hk
    have hr : (0 : Int) ≤ (k : Int) ∧ (k : Int) < 6 := by omega
    refine wg_X3_begin_now_17 (Nat.le_refl _) _ _ ⟨fun q => absurd q (by omega), fun _ => ⟨hr, hr, hr, hr, hr, hr, ?_⟩⟩
    have e1 : e_w ((k : Int) + 1) = ((k + 1 : Nat) : Int) := by rw [e_ws_ (by omega) (by omega)]; omega
    rw [e1, show ((k : Int)).toNat = k by omega, n_bs k (by omega)]
    exact ih (k + 1) (by omega)
theorem n_begin : e_E X (d + 1) YX3_begin [.inr (.inr 36)] (63, gn, e_RF, n_0) (.inl none, (63, gn, e_RF, n_b 6)) := by
  refine wg_X3_begin_now_0 (Nat.le_refl _) _ ?_
  have e1 : e_up n_0 36 2 0 = n_0 := up_same rfl
  have e2 : e_up n_0 36 3 0 = n_0 := up_same rfl
  have e3 : e_up n_0 36 4 0 = n_0 := up_same rfl
  rw [e1, e2, e3, ← n_b0]
  exact n_bl 6 0 rfl
theorem n_tn : e_E X d YX11_tellsNothing [.inr (.inr 64)] (556, gn, e_RF, n_2) (.inl none, (556, gn, e_RF, n_2)) := by
  have h1 : ∀ n k : Nat, k + n = 6 → e_G X d YX11_tellsNothing 22 [some (.inr (.inr 64)), some (.inl (k : Int))] [] (556, gn, e_RF, n_2) (.inl none, (556, gn, e_RF, n_2)) := by
    intro n
    induction n with
    | zero => intro k hk; exact wg_X11_tellsNothing_22 (Nat.le_refl _) _ _ ⟨fun _ => rfl, fun q => absurd q (by omega)⟩
    | succ n ih =>
      intro k hk
      refine wg_X11_tellsNothing_22 (Nat.le_refl _) _ _ ⟨fun q => absurd q (by omega), fun _ => ⟨by omega, ?_⟩⟩
      have e1 : e_w ((k : Int) + 1) = ((k + 1 : Nat) : Int) := by rw [e_ws_ (by omega) (by omega)]; omega
      rw [e1, show e_up n_2 71 ((k : Int)).toNat 0 = n_2 from up_same (by simp [n_2, n_b, n_0])]
      exact ih (k + 1) (by omega)
  have h2 : ∀ n k : Nat, k + n = 3 → e_G X d YX11_tellsNothing 2 [some (.inr (.inr 64)), some (.inl (k : Int))] [] (556, gn, e_RF, n_2) (.inl none, (556, gn, e_RF, n_2)) := by
    intro n
    induction n with
    | zero => intro k hk; exact wg_X11_tellsNothing_2 (Nat.le_refl _) _ _ ⟨fun _ => h1 6 0 rfl, fun q => absurd q (by omega)⟩
    | succ n ih =>
      intro k hk
      refine wg_X11_tellsNothing_2 (Nat.le_refl _) _ _ ⟨fun q => absurd q (by omega), fun _ => ⟨by omega, ?_⟩⟩
      have e1 : e_w ((k : Int) + 1) = ((k + 1 : Nat) : Int) := by rw [e_ws_ (by omega) (by omega)]; omega
      rw [e1, show e_up n_2 67 ((k : Int)).toNat 0 = n_2 from up_same (by simp [n_2, n_b, n_0])]
      exact ih (k + 1) (by omega)
  exact wg_X11_tellsNothing_0 (Nat.le_refl _) _ (h2 3 0 rfl)
theorem n_ba : e_E X (d + 1) YX11_beginsAnew [.inr (.inr 64)] (556, gn, e_RF, n_2) (.inl none, (556, gn, e_RF, n_c 6)) := by
  have h5 : e_G X (d + 1) YX11_beginsAnew 188 [some (.inr (.inr 64)), some (.inl 0)] [] (556, gn, e_RF, n_c 6) (.inl none, (556, gn, e_RF, n_c 6)) := by
    refine wg_X11_beginsAnew_188 (Nat.le_refl _) _ _ ⟨fun _ => ?_, fun q => absurd (Int.le_refl _) q⟩
    rw [up_same (M := n_c 6) (a := 64) (j := 21) (v := 0) rfl, up_same (M := n_c 6) (a := 64) (j := 35) (v := 0) rfl, up_same (M := n_c 6) (a := 64) (j := 36) (v := 0) rfl, up_same (M := n_c 6) (a := 64) (j := 37) (v := 0) rfl, up_same (M := n_c 6) (a := 64) (j := 38) (v := 0) rfl]
  have h4 : ∀ n k : Nat, k + n = 6 → e_G X (d + 1) YX11_beginsAnew 108 [some (.inr (.inr 64)), some (.inl (k : Int))] [] (556, gn, e_RF, n_c k) (.inl none, (556, gn, e_RF, n_c 6)) := by
    intro n
    induction n with
    | zero =>
      intro k hk
      have hk6 : k = 6 := by omega
      subst hk6
      exact wg_X11_beginsAnew_108 (Nat.le_refl _) _ _ ⟨fun _ => h5, fun q => absurd q (by omega)⟩
    | succ n ih =>
      intro k hk
      have z0 : n_c k 68 0 = 0 := rfl
      have hr : (0 : Int) ≤ (k : Int) ∧ (k : Int) < 6 := by omega
      refine wg_X11_beginsAnew_108 (Nat.le_refl _) _ _ ⟨fun q => absurd q (by omega), fun _ => ⟨fun _ => ?_, fun q => absurd (by rw [z0]; omega) q⟩⟩
      have e2 : e_up (n_c k) 72 ((k : Int)).toNat 0 = n_c k := up_same (by simp [n_c, n_2, n_b, n_0])
      refine wg_X11_beginsAnew_139 (Nat.le_refl _) _ _ _ _ ⟨hr, ?_⟩
      rw [e2]
      refine ⟨fun _ => ?_, fun q => absurd (by rw [z0]; omega) q⟩
      have e1 : e_w ((k : Int) + 1) = ((k + 1 : Nat) : Int) := by rw [e_ws_ (by omega) (by omega)]; omega
      have e3 : e_w (0 + (k : Int)) = (k : Int) := by rw [e_ws_ (by omega) (by omega)]; omega
      have e4 : e_w (18 + (k : Int)) = ((18 + k : Nat) : Int) := by rw [e_ws_ (by omega) (by omega)]; omega
      refine wg_X11_beginsAnew_169 (Nat.le_refl _) _ _ _ _ ⟨by rw [e3]; omega, by rw [e4]; omega, ?_⟩
      rw [e1, e3, e4, show (((18 + k : Nat) : Int)).toNat = 18 + k by omega, show ((k : Int)).toNat = k by omega, show e_up (n_c k) 532 k 0 = n_c k from up_same (by unfold n_c; rw [if_neg (by omega)]; rfl)]
      have e5 : e_up (n_c k) 532 (18 + k) (-1) = n_c (k + 1) := by
        funext a j
        unfold e_up n_c
        by_cases h : a = 532
        · subst h
          by_cases h2 : j = 18 + k
          · subst h2; simp
          · by_cases h3 : 18 ≤ j ∧ j < 18 + k
            · have h4 : 18 ≤ j ∧ j < 18 + (k + 1) := by omega
              simp only [h2, h3, h4, if_true, if_false, and_self, if_pos]
            · have h4 : ¬ (18 ≤ j ∧ j < 18 + (k + 1)) := by omega
              simp only [h2, h3, h4, if_true, if_false, and_false, if_pos]
        · simp [h]
      rw [e5]
      exact ih (k + 1) (by omega)
  have h3 : ∀ n k : Nat, k + n = 56 → e_G X (d + 1) YX11_beginsAnew 87 [some (.inr (.inr 64)), some (.inl (k : Int))] [] (556, gn, e_RF, n_2) (.inl none, (556, gn, e_RF, n_c 6)) := by
    intro n
    induction n with
    | zero => intro k hk; exact wg_X11_beginsAnew_87 (Nat.le_refl _) _ _ ⟨fun _ => by rw [← n_c0]; exact h4 6 0 rfl, fun q => absurd q (by omega)⟩
    | succ n ih =>
      intro k hk
      refine wg_X11_beginsAnew_87 (Nat.le_refl _) _ _ ⟨fun q => absurd q (by omega), fun _ => ⟨by omega, ?_⟩⟩
      have e1 : e_w ((k : Int) + 1) = ((k + 1 : Nat) : Int) := by rw [e_ws_ (by omega) (by omega)]; omega
      rw [e1, show e_up n_2 532 ((k : Int)).toNat 0 = n_2 from up_same (by simp [n_2, n_b, n_0])]
      exact ih (k + 1) (by omega)
  have h2 : ∀ n k : Nat, k + n = 6 → e_G X (d + 1) YX11_beginsAnew 61 [some (.inr (.inr 64)), some (.inl (k : Int))] [] (556, gn, e_RF, n_2) (.inl none, (556, gn, e_RF, n_c 6)) := by
    intro n
    induction n with
    | zero => intro k hk; exact wg_X11_beginsAnew_61 (Nat.le_refl _) _ _ ⟨fun _ => h3 56 0 rfl, fun q => absurd q (by omega)⟩
    | succ n ih =>
      intro k hk
      refine wg_X11_beginsAnew_61 (Nat.le_refl _) _ _ ⟨fun q => absurd q (by omega), fun _ => ⟨by omega, by omega, ?_⟩⟩
      have e1 : e_w ((k : Int) + 1) = ((k + 1 : Nat) : Int) := by rw [e_ws_ (by omega) (by omega)]; omega
      rw [e1, show e_up n_2 70 ((k : Int)).toNat (n_2 69 ((k : Int)).toNat) = n_2 from up_same (by simp [n_2, n_b, n_0])]
      exact ih (k + 1) (by omega)
  have h1 : ∀ n k : Nat, k + n = 3 → e_G X (d + 1) YX11_beginsAnew 2 [some (.inr (.inr 64)), some (.inl (k : Int))] [] (556, gn, e_RF, n_2) (.inl none, (556, gn, e_RF, n_c 6)) := by
    intro n
    induction n with
    | zero =>
      intro k hk
      exact wg_X11_beginsAnew_2 (Nat.le_refl _) _ _ ⟨Nat.le_refl _, Nat.le_refl _⟩ ⟨fun _ => ⟨n_2, wg_X11_lays_m_person_0 (Nat.le_refl _) _ _ (wg_X11_lays_m_person_2 (Nat.le_refl _) _ _ _ ⟨fun _ => rfl, fun q => absurd (Int.le_refl _) q⟩), n_2, wg_X11_lays_m_task_0 (Nat.le_refl _) _ _ (wg_X11_lays_m_task_2 (Nat.le_refl _) _ _ _ ⟨fun _ => rfl, fun q => absurd (Int.le_refl _) q⟩), h2 6 0 rfl⟩, fun q => absurd q (by omega)⟩
    | succ n ih =>
      intro k hk
      refine wg_X11_beginsAnew_2 (Nat.le_refl _) _ _ ⟨Nat.le_refl _, Nat.le_refl _⟩ ⟨fun q => absurd q (by omega), fun _ => ⟨by omega, by omega, ?_⟩⟩
      have e1 : e_w ((k : Int) + 1) = ((k + 1 : Nat) : Int) := by rw [e_ws_ (by omega) (by omega)]; omega
      rw [e1, show e_up n_2 68 ((k : Int)).toNat (n_2 67 ((k : Int)).toNat) = n_2 from up_same (by simp [n_2, n_b, n_0])]
      exact ih (k + 1) (by omega)
  exact wg_X11_beginsAnew_0 (Nat.le_refl _) _ (h1 3 0 rfl)
/-- new BoughtMondays() -/
theorem n_cx : e_E X (d + 2) YX10_init [.inr (.inr 1)] (1, gn, e_zR n_R 1, e_z n_M 1) (.inl none, (63, gn, e_RF, n_b 6)) := by
  refine k_x (by intro a j; unfold e_zR n_R; split <;> omega) ⟨Nat.le_refl _, Nat.le_refl _⟩ ?_
  refine e_swap2 (by decide) n_sx (n_rM n_r0) ?_
  refine e_r_aload_n (pc' := 240) (by decide) dX10_init_239 rfl rfl rfl ?_
  refine e_r_getr (k := 8) (q := 36) (pc' := 243) cl_10 rfl (Nat.le_of_ble_eq_true rfl) rfl rfl fl_RX10_58 rfl (Nat.le_of_ble_eq_true rfl) dX10_init_240 rfl ?_
  refine e_r_callV (a := 36) (av := []) (st := []) mqYX3_begin ml_RX10_111 cl_3 rfl (Nat.le_of_ble_eq_true rfl) (by simp [e_cat]) rfl rfl rfl dX10_init_243 (pc' := 246) rfl n_begin ⟨Nat.le_refl _, Nat.le_refl _⟩ ⟨Nat.le_refl _, Nat.le_refl _⟩ ?_
  exact e_r_vret rfl dX10_init_246 rfl
/-- the model -/
theorem n_cm : e_E X (d + 2) YX11_init [.inr (.inr 64)] (64, gn, e_zR n_Rb 64, e_z (n_b 6) 64) (.inl none, (556, gn, e_RF, n_c 6)) := by
  refine k_m (d := d + 1) (by intro a j; have := n_Rb_le a j; unfold e_zR; split <;> omega) ⟨Nat.le_refl _, Nat.le_refl _⟩ ?_
  refine e_swap2 (by decide) n_sm (n_rM n_r2) ?_
  refine e_r_aload_n (pc' := 246) (by decide) dX11_init_245 rfl rfl rfl ?_
  refine e_r_callV (a := 64) (av := []) (st := []) mqYX11_tellsNothing ml_RX11_91 cl_11 rfl (Nat.le_of_ble_eq_true rfl) (by simp [e_cat]) rfl rfl rfl dX11_init_246 (pc' := 249) rfl n_tn ⟨Nat.le_refl _, Nat.le_refl _⟩ ⟨Nat.le_refl _, Nat.le_refl _⟩ ?_
  refine e_r_aload_n (pc' := 250) (by decide) dX11_init_249 rfl rfl rfl ?_
  refine e_r_callV (a := 64) (av := []) (st := []) mqYX11_beginsAnew ml_RX11_94 cl_11 rfl (Nat.le_of_ble_eq_true rfl) (by simp [e_cat]) rfl rfl rfl dX11_init_250 (pc' := 253) rfl n_ba ⟨Nat.le_refl _, Nat.le_refl _⟩ ⟨Nat.le_refl _, Nat.le_refl _⟩ ?_
  exact e_r_vret rfl dX11_init_253 rfl
/-- the law's entry -/
theorem n_law {o : e_O} (hmo : e_mn (557, 0, e_RF, n_c 6) o.2) (k9 : e_G X 401 YL_law_ 23 [some (.inr (.inr 999999)), some (.inr (.inr 1)), some (.inr (.inr 64)), some (.inr (.inr 557)), some (.inl 0), none, none, none] [] (557, 0, e_RF, n_c 6) o) : e_E X 401 YL_law_ [.inr (.inr 999999)] (0, 0, n_R, n_M) o := by
  have hq : ∀ n, n ≤ 557 → ∀ R M, e_mn (n, 0, R, M) o.2 := fun n hn R M => ⟨Nat.le_trans hn hmo.1, hmo.2⟩
  refine e_q_new (c1 := 1) (pc' := 3) cl_10 cf_10 rfl (by intro a j; exact Nat.le_refl _) (by decide) kl_RL_8 ins_10 ini_10 dL_law__0 rfl (hq _ (by decide) _ _) rfl ?_
  refine e_r_dup (pc' := 4) rfl dL_law__3 rfl ?_
  refine e_r_callI (a := 1) (av := []) (st := [.inr (.inr 1)]) (pc' := 7) mcYX10_init ml_RL_117 (by decide) (by simp [e_cat]) rfl rfl rfl dL_law__4 rfl n_cx ⟨by decide, Nat.le_refl _⟩ (hq _ (by decide) _ _) ?_
  refine e_r_astore_n (pc' := 8) (loc' := [some (.inr (.inr 999999)), some (.inr (.inr 1)), none, none, none, none, none, none]) (by decide) dL_law__7 rfl rfl rfl rfl rfl ?_
  refine e_swap2 (by decide) n_sb (n_rM (n_rb 6)) ?_
  refine e_q_new (c1 := 64) (pc' := 11) cl_11 cf_11 rfl n_Rb_le (by decide) kl_RL_118 ins_11 ini_11 dL_law__8 rfl (hq _ (by decide) _ _) rfl ?_
  refine e_r_dup (pc' := 12) rfl dL_law__11 rfl ?_
  refine e_r_callI (a := 64) (av := []) (st := [.inr (.inr 64)]) (pc' := 15) mcYX11_init ml_RL_120 (by decide) (by simp [e_cat]) rfl rfl rfl dL_law__12 rfl n_cm ⟨by decide, Nat.le_refl _⟩ (hq _ (by decide) _ _) ?_
  refine e_r_astore_n (pc' := 16) (loc' := [some (.inr (.inr 999999)), some (.inr (.inr 1)), some (.inr (.inr 64)), none, none, none, none, none]) (by decide) dL_law__15 rfl rfl rfl rfl rfl ?_
  refine e_r_iconst (pc' := 17) dL_law__16 rfl (by decide) ?_
  refine e_swap2 (by decide) n_sc (n_rM (n_rc 6)) ?_
  refine e_q_newL (n := 1) (c1 := 557) (pc' := 19) rfl rfl n_Rc_le (by decide) (by decide) ac_long dL_law__17 rfl (hq _ (by decide) _ _) rfl ?_
  refine e_r_astore_n (pc' := 20) (loc' := [some (.inr (.inr 999999)), some (.inr (.inr 1)), some (.inr (.inr 64)), some (.inr (.inr 557)), none, none, none, none]) (by decide) dL_law__19 rfl rfl rfl rfl rfl ?_
  refine e_swap2 (by decide) n_sd (n_rM (n_rc 6)) ?_
  refine e_r_iconst (pc' := 21) dL_law__20 rfl (by decide) ?_
  refine e_r_istore (pc' := 23) (loc' := [some (.inr (.inr 999999)), some (.inr (.inr 1)), some (.inr (.inr 64)), some (.inr (.inr 557)), some (.inl 0), none, none, none]) dL_law__21 rfl rfl rfl rfl ?_
  exact k9
end NI
