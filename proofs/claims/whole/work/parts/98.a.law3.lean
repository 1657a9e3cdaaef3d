/-! THE LAW'S TEXT, 3: a unit -/
theorem t_mt_ex {j : Nat} {T : Nat → Int} {s E i len i' len' : Nat} (h : t_mt j T s E i len = true) (g : t_mt j T s E i' len' = true) : len = len' ∧ ∀ k, k < len → e_sg j (i + k) = e_sg j (i' + k) := by
  obtain ⟨h1, h2⟩ := of_decide_eq_true h
  obtain ⟨g1, g2⟩ := of_decide_eq_true g
  have e1 : len = len' := by omega
  refine ⟨e1, fun k hk => ?_⟩
  rw [← h2 k hk, ← g2 k (by omega)]
theorem l_i8 {T : Nat → Int} {s E : Nat} (h : t_mt 2 T s E 49 5 = true) : t_i2 T s E = 8 := by
  unfold t_i2
  rw [if_neg (fun g => absurd (t_mt_ex h g).1 (by decide)), if_neg (fun g => absurd (t_mt_ex h g).1 (by decide)), if_neg (fun g => absurd (t_mt_ex h g).1 (by decide)), if_neg (fun g => absurd ((t_mt_ex h g).2 0 (by decide)) (by decide)), if_neg (fun g => absurd (t_mt_ex h g).1 (by decide)), if_neg (fun g => absurd (t_mt_ex h g).1 (by decide)), if_neg (fun g => absurd ((t_mt_ex h g).2 0 (by decide)) (by decide)), if_neg (fun g => absurd (t_mt_ex h g).1 (by decide)), if_pos h]
theorem l_i9 {T : Nat → Int} {s E : Nat} (h : t_mt 2 T s E 55 4 = true) : t_i2 T s E = 9 := by
  unfold t_i2
  rw [if_neg (fun g => absurd ((t_mt_ex h g).2 0 (by decide)) (by decide)), if_neg (fun g => absurd ((t_mt_ex h g).2 0 (by decide)) (by decide)), if_neg (fun g => absurd (t_mt_ex h g).1 (by decide)), if_neg (fun g => absurd (t_mt_ex h g).1 (by decide)), if_neg (fun g => absurd ((t_mt_ex h g).2 0 (by decide)) (by decide)), if_neg (fun g => absurd (t_mt_ex h g).1 (by decide)), if_neg (fun g => absurd (t_mt_ex h g).1 (by decide)), if_neg (fun g => absurd (t_mt_ex h g).1 (by decide)), if_neg (fun g => absurd (t_mt_ex h g).1 (by decide)), if_pos h]
theorem l_i0 {T : Nat → Int} {s E : Nat} (h8 : ¬ t_mt 2 T s E 49 5 = true) (h9 : ¬ t_mt 2 T s E 55 4 = true) : -1 ≤ t_i2 T s E ∧ t_i2 T s E < 8 := by
  unfold t_i2
  rw [if_neg h8, if_neg h9]
  repeat' split
  all_goals decide
theorem l_nw {T : Nat → Int} {s e : Nat} (h : ¬ (s < e ∧ 97 ≤ T s ∧ T s ≤ 122)) : t_i2 T s (t_we T e (e - s) s) = -1 ∧ ¬ t_mt 2 T s (t_we T e (e - s) s) 49 5 = true ∧ ¬ t_mt 2 T s (t_we T e (e - s) s) 55 4 = true := by
  have hE : t_we T e (e - s) s = s := t_we_0 h
  rw [hE]
  have hn : ∀ i len, 0 < len → ¬ t_mt 2 T s s i len = true := fun i len h0 g => by
    have := (of_decide_eq_true g).1
    omega
  refine ⟨?_, hn 49 5 (by decide), hn 55 4 (by decide)⟩
  unfold t_i2
  rw [if_neg (hn _ _ (by decide)), if_neg (hn _ _ (by decide)), if_neg (hn _ _ (by decide)), if_neg (hn _ _ (by decide)), if_neg (hn _ _ (by decide)), if_neg (hn _ _ (by decide)), if_neg (hn _ _ (by decide)), if_neg (hn _ _ (by decide)), if_neg (hn _ _ (by decide)), if_neg (hn _ _ (by decide))]
/-- the model at a unit, up to the names least and most -/
theorem l_one {T : Nat → Int} {e b : Nat} {fp : Int} {N : e_M} {F : Nat} (hF : 2000 < F) (hT : ∀ j, j < 600 → 0 ≤ T j ∧ T j ≤ 255) (he : e ≤ 600) (hb : b ≤ e) (h : t_m T e b 0 fp N) : ∃ N1, t_m T e (t_s T e b) 0 fp N1 ∧ t_fm N N1 ∧ ∀ ms, f_X11_one ms F N = f_X11_one_56 ms F (if t_mt 2 T (t_s T e b) (t_we T e (e - t_s T e b) (t_s T e b)) 49 5 = true then 7 else if t_mt 2 T (t_s T e b) (t_we T e (e - t_s T e b) (t_s T e b)) 55 4 = true then 8 else -1) N1 := by
  obtain ⟨N0, a1, a2, a3⟩ := t_bl hT he (e - b) b 0 fp N rfl hb h
  have hs := (t_s_p (T := T) (e - b) b rfl).2.1 hb
  have hss : t_s T e (t_s T e b) = t_s T e b := t_ss
  generalize t_s T e b = s at *
  obtain ⟨N1, b1, b2, b3⟩ := t_isw (j := 2) (i := 49) (len := 5) (V := 6476969) (c1 := 12) (c2 := 5) (c3 := 1) (c4 := 19) (c5 := 20) (c6 := 0) hT he hs a2 (by decide) (by decide) (by decide) (fun _ => rfl)
  rw [hss] at b1 b2
  by_cases c8 : t_mt 2 T s (t_we T e (e - s) s) 49 5 = true
  · rw [if_pos c8] at b1
    refine ⟨N1, b2, a3.tr b3, fun ms => ?_⟩
    unfold f_X11_one
    rw [h.2.2.1, if_pos rfl, a1 F (by omega), f_bs, b1 F (by omega), f_bs, if_neg (show ¬ (1 : Int) = 0 by decide), if_pos c8]
  · rw [if_neg c8] at b1
    obtain ⟨N2, d1, d2, d3⟩ := t_isw (j := 2) (i := 55) (len := 4) (V := 267347) (c1 := 13) (c2 := 15) (c3 := 19) (c4 := 20) (c5 := 0) (c6 := 0) hT he hs b2 (by decide) (by decide) (by decide) (fun _ => rfl)
    rw [hss] at d1 d2
    refine ⟨N2, d2, (a3.tr b3).tr d3, fun ms => ?_⟩
    unfold f_X11_one
    rw [h.2.2.1, if_pos rfl, a1 F (by omega), f_bs, b1 F (by omega), f_bs, if_pos rfl, d1 F (by omega), f_bs, if_neg c8]
    by_cases c9 : t_mt 2 T s (t_we T e (e - s) s) 55 4 = true
    · rw [if_pos c9, if_neg (show ¬ (1 : Int) = 0 by decide), if_pos c9]
    · rw [if_neg c9, if_pos rfl, if_neg c9]
theorem l_op1 {T : Nat → Int} {e s o : Nat} {fp : Int} {N : e_M} (h : t_m T e s 0 fp N) (ho : o < 6) (h8 : N 64 8 = (o : Int)) : f_X11_opensOne N = some (1, e_up N 64 8 ((o + 1 : Nat) : Int)) := by
  unfold f_X11_opensOne
  rw [h.2.2.1, if_neg (show ¬ ¬ (0 : Int) = 0 by decide), h8, if_pos (show ¬ (o : Int) = 6 by omega), if_neg (show ¬ ¬ (0 : Int) = 0 by decide), y_ei (by omega), u_c (by decide), h.2.2.1, if_neg (show ¬ ¬ (0 : Int) = 0 by decide)]
theorem l_op6 {T : Nat → Int} {e s : Nat} {fp : Int} {N : e_M} (h : t_m T e s 0 fp N) (h8 : N 64 8 = 6) : ∃ N', f_X11_opensOne N = some (0, N') ∧ t_m T e s 3 (s : Int) N' ∧ t_fm N N' := by
  obtain ⟨q1, q2, q3⟩ := t_m_fl (k := 3) (p := (s : Int)) h
  refine ⟨_, ?_, q2, q3⟩
  unfold f_X11_opensOne
  rw [h.2.2.1, if_neg (show ¬ ¬ (0 : Int) = 0 by decide), h8, if_neg (show ¬ ¬ (6 : Int) = 6 by decide), h.2.1, q1, f_bs, q2.2.2.1, if_pos (show ¬ (3 : Int) = 0 by decide)]
