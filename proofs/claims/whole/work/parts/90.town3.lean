/-! THE TOWN'S TEXT, 3: a clause as a whole -/
theorem x_md {T : Nat → Int} {e n m t s c : Nat} {κ w0 : Int} {M N N1 : e_M} (hT : ∀ j, j < 600 → 0 ≤ T j ∧ T j ≤ 255) (he : e ≤ 600) (hs : s ≤ e) (hκ : (κ = 0 ∧ n < 6 ∧ w0 = (n : Int)) ∨ (κ = 1 ∧ m < 6 ∧ w0 = (m : Int)) ∨ (κ = 2 ∧ t < 12 ∧ w0 = (t : Int)) ∨ (κ = 3 ∧ w0 = 0)) (hk : ∀ f, 601 < f → f_X11_kindHere f N = some (κ, N1)) (h1 : t_m T e s 0 (-1) N1) (hf : t_fm N N1) (h7 : N 64 7 = (c : Int)) (hc : c < 60) (hR : x_R n m t M N) : ∃ N3, t_m T e (t_we T e (e - s) s) 0 (-1) N3 ∧ (∀ r j, ¬ (r = 64 ∧ 4 ≤ j ∧ j ≤ 7) → N3 r j = N r j) ∧ N3 64 7 = ((c + 1 : Nat) : Int) ∧ ∀ f, 701 < f → f_X11_clause f N = f_X11_clause_95 f κ w0 N3 := by
  obtain ⟨N2, a1, a2, a3⟩ := t_skw hT he (e - s) s N1 rfl hs h1
  have e7 : N1 64 7 = (c : Int) := by rw [hf 64 7 (by omega)]; exact h7
  have e7' : N2 64 7 = (c : Int) := by rw [a3 64 7 (by omega)]; exact e7
  have c0 : N1 67 0 = (n : Int) := by rw [hf 67 0 (by omega)]; exact hR.1
  have c1 : N1 67 1 = (m : Int) := by rw [hf 67 1 (by omega)]; exact hR.2.1
  have c2 : N1 67 2 = (t : Int) := by rw [hf 67 2 (by omega)]; exact hR.2.2.1
  have d0 : N2 67 0 = (n : Int) := by rw [a3 67 0 (by omega)]; exact c0
  have d1 : N2 67 1 = (m : Int) := by rw [a3 67 1 (by omega)]; exact c1
  have d2 : N2 67 2 = (t : Int) := by rw [a3 67 2 (by omega)]; exact c2
  refine ⟨e_up N2 64 7 ((c + 1 : Nat) : Int), t_m_v (by omega) a2, fun r j h => ?_, u_s _ _ _ _, fun f hf2 => ?_⟩
  · by_cases er : r = 64
    · subst er; rw [u_c (by omega), a3 64 j (by omega), hf 64 j (by omega)]
    · rw [u_r er, a3 r j (by omega), hf r j (by omega)]
  · unfold f_X11_clause f_X11_clause_58 f_X11_mostOf
    rcases hκ with ⟨rfl, x1, rfl⟩ | ⟨rfl, x1, rfl⟩ | ⟨rfl, x1, rfl⟩ | ⟨rfl, rfl⟩
    · rw [hk f (by omega), f_bs, if_pos (show ¬ (0 : Int) = -1 by decide), e7, if_neg (show ¬ (c : Int) = 60 by omega), if_neg (show ¬ (3 : Int) ≤ 0 by decide), if_pos (show 0 ≤ (0 : Int) ∧ (0 : Int) < 3 by decide), if_pos (show ¬ (0 : Int) = 2 by decide), f_bs, show (0 : Int).toNat = 0 from rfl, c0, if_pos (show ¬ (n : Int) = 6 by omega), h1.2.2.1, if_pos rfl, a1 f (by omega), f_bs, if_neg (show ¬ (3 : Int) ≤ 0 by decide), if_pos (show 0 ≤ (0 : Int) ∧ (0 : Int) < 3 by decide), e7', y_ei (by omega), u_r (show (67 : Nat) ≠ 64 by decide), d0]
    · rw [hk f (by omega), f_bs, if_pos (show ¬ (1 : Int) = -1 by decide), e7, if_neg (show ¬ (c : Int) = 60 by omega), if_neg (show ¬ (3 : Int) ≤ 1 by decide), if_pos (show 0 ≤ (1 : Int) ∧ (1 : Int) < 3 by decide), if_pos (show ¬ (1 : Int) = 2 by decide), f_bs, show (1 : Int).toNat = 1 from rfl, c1, if_pos (show ¬ (m : Int) = 6 by omega), h1.2.2.1, if_pos rfl, a1 f (by omega), f_bs, if_neg (show ¬ (3 : Int) ≤ 1 by decide), if_pos (show 0 ≤ (1 : Int) ∧ (1 : Int) < 3 by decide), e7', y_ei (by omega), u_r (show (67 : Nat) ≠ 64 by decide), d1]
    · rw [hk f (by omega), f_bs, if_pos (show ¬ (2 : Int) = -1 by decide), e7, if_neg (show ¬ (c : Int) = 60 by omega), if_neg (show ¬ (3 : Int) ≤ 2 by decide), if_pos (show 0 ≤ (2 : Int) ∧ (2 : Int) < 3 by decide), if_neg (show ¬ ¬ (2 : Int) = 2 by decide), f_bs, show (2 : Int).toNat = 2 from rfl, c2, if_pos (show ¬ (t : Int) = 12 by omega), h1.2.2.1, if_pos rfl, a1 f (by omega), f_bs, if_neg (show ¬ (3 : Int) ≤ 2 by decide), if_pos (show 0 ≤ (2 : Int) ∧ (2 : Int) < 3 by decide), e7', y_ei (by omega), u_r (show (67 : Nat) ≠ 64 by decide), d2]
    · rw [hk f (by omega), f_bs, if_pos (show ¬ (3 : Int) = -1 by decide), e7, if_neg (show ¬ (c : Int) = 60 by omega), if_pos (show (3 : Int) ≤ 3 by decide), h1.2.2.1, if_pos rfl, a1 f (by omega), f_bs, if_pos (show (3 : Int) ≤ 3 by decide), e7', y_ei (by omega)]
theorem x_mw {T : Nat → Int} {e n m t s c : Nat} {κ k : Int} {M N N1 : e_M} (hκ : (κ = -1 ∧ k = 1) ∨ (0 ≤ κ ∧ κ ≤ 3 ∧ k = 3 ∧ (c = 60 ∨ (c < 60 ∧ ((κ = 0 ∧ n = 6) ∨ (κ = 1 ∧ m = 6) ∨ (κ = 2 ∧ t = 12)))))) (hk : ∀ f, 601 < f → f_X11_kindHere f N = some (κ, N1)) (h1 : t_m T e s 0 (-1) N1) (hf : t_fm N N1) (h7 : N 64 7 = (c : Int)) (hR : x_R n m t M N) : ∃ N3, t_m T e s k (s : Int) N3 ∧ t_fm N N3 ∧ ∀ f, 701 < f → f_X11_clause f N = some (0, N3) := by
  have e7 : N1 64 7 = (c : Int) := by rw [hf 64 7 (by omega)]; exact h7
  have c0 : N1 67 0 = (n : Int) := by rw [hf 67 0 (by omega)]; exact hR.1
  have c1 : N1 67 1 = (m : Int) := by rw [hf 67 1 (by omega)]; exact hR.2.1
  have c2 : N1 67 2 = (t : Int) := by rw [hf 67 2 (by omega)]; exact hR.2.2.1
  obtain ⟨q1, q2, q3⟩ := t_m_fl (k := k) (p := (s : Int)) h1
  have hk0 : ¬ k = 0 := by omega
  have h58 : ∀ f, f_X11_clause_58 f κ (e_up (e_up N1 64 5 k) 64 6 (s : Int)) = some (0, e_up (e_up N1 64 5 k) 64 6 (s : Int)) := fun f => by
    unfold f_X11_clause_58
    rw [q2.2.2.1, if_neg hk0]
  refine ⟨_, q2, hf.tr q3, fun f hf2 => ?_⟩
  unfold f_X11_clause f_X11_mostOf
  rw [hk f (by omega), f_bs, h1.2.1]
  rcases hκ with ⟨rfl, rfl⟩ | ⟨z1, z2, rfl, z3⟩
  · rw [if_neg (show ¬ ¬ (-1 : Int) = -1 by decide), q1, f_bs, h58]
  · rw [if_pos (show ¬ κ = -1 by omega), e7]
    rcases z3 with z3 | ⟨z3, z4⟩
    · rw [if_pos (show (c : Int) = 60 by omega), q1, f_bs, h58]
    · rw [if_neg (show ¬ (c : Int) = 60 by omega), if_neg (show ¬ 3 ≤ κ by omega), if_pos (show 0 ≤ κ ∧ κ < 3 by omega)]
      rcases z4 with ⟨rfl, z4⟩ | ⟨rfl, z4⟩ | ⟨rfl, z4⟩
      · rw [if_pos (show ¬ (0 : Int) = 2 by decide), f_bs, show (0 : Int).toNat = 0 from rfl, c0, if_neg (show ¬ ¬ (n : Int) = 6 by omega), h1.2.1, q1, f_bs, h58]
      · rw [if_pos (show ¬ (1 : Int) = 2 by decide), f_bs, show (1 : Int).toNat = 1 from rfl, c1, if_neg (show ¬ ¬ (m : Int) = 6 by omega), h1.2.1, q1, f_bs, h58]
      · rw [if_neg (show ¬ ¬ (2 : Int) = 2 by decide), f_bs, show (2 : Int).toNat = 2 from rfl, c2, if_neg (show ¬ ¬ (t : Int) = 12 by omega), h1.2.1, q1, f_bs, h58]
/-- a flawed text: the class reads no clause -/
theorem x_rcf {T : Nat → Int} {e a : Nat} {fl fp w : Int} {M : e_M} (hf : fl ≠ 0) (h : t_C T e a fl fp M) {f : Nat} : f_X8_readClause f w M = some (0, M) := by
  unfold f_X8_readClause f_X8_readPerson f_X8_readDuty f_X8_readTask f_X8_readSkill f_X8_readPerson_18 f_X8_readDuty_18 f_X8_readTask_18
  simp only [t_rn2 hf h, t_fd h, t_C_f2 hf h, f_bs, if_neg hf, ↓reduceIte, show ¬ (1 : Int) = 0 by decide, not_false_eq_true, ite_self]
/-- one more than may be: the class -/
theorem x_full {T : Nat → Int} {e n m t a : Nat} {w s : Int} {M : e_M} (hB : x_B n m t M) (h : t_C T e a 0 (-1) M) (h6 : M 2 6 = s) (hw : (w = 0 ∧ n = 6) ∨ (w = 1 ∧ m = 6) ∨ (w = 3 ∧ t = 12)) : ∃ M', (∀ f, f_X8_readClause f w M = some (0, M')) ∧ t_C T e a 3 s M' ∧ t_fC M M' := by
  obtain ⟨b1, b2, b3, b4, b5, b6, b7, b8, b9⟩ := hB
  obtain ⟨l1, l2, l3⟩ := t_C_fl (k := 3) (p := s) h
  refine ⟨_, fun f => ?_, l2, l3⟩
  have h3 : (3 : Int) ≠ 0 := by decide
  unfold f_X8_readClause f_X8_readPerson f_X8_readDuty f_X8_readTask f_X8_readPerson_18 f_X8_readDuty_18 f_X8_readTask_18
  rw [h6]
  rcases hw with ⟨rfl, z⟩ | ⟨rfl, z⟩ | ⟨rfl, z⟩
  · rw [if_pos rfl, b4, if_neg (show ¬ (n : Int) < 6 by omega), l1, f_bs]
    simp only [t_rn2 h3 l2, t_fd l2, f_bs, if_neg h3, ↓reduceIte, show ¬ (1 : Int) = 0 by decide, not_false_eq_true]
  · rw [if_neg (show ¬ (1 : Int) = 0 by decide), if_pos rfl, b5, if_neg (show ¬ (m : Int) < 6 by omega), l1, f_bs]
    simp only [t_rn2 h3 l2, t_fd l2, f_bs, if_neg h3, ↓reduceIte, show ¬ (1 : Int) = 0 by decide, not_false_eq_true]
  · rw [if_neg (show ¬ (3 : Int) = 0 by decide), if_neg (show ¬ (3 : Int) = 1 by decide), if_neg (show ¬ (3 : Int) = 2 by decide), if_pos rfl, b6, if_neg (show ¬ (t : Int) < 12 by omega), l1, f_bs]
    simp only [t_rn2 h3 l2, t_fd l2, f_bs, if_neg h3, ↓reduceIte, show ¬ (1 : Int) = 0 by decide, not_false_eq_true]
theorem x_B_f {n m t : Nat} {M N : e_M} (h : ∀ r j, 12 ≤ r → r ≤ 19 → N r j = M r j) (k : x_B n m t M) : x_B n m t N := by
  obtain ⟨b1, b2, b3, b4, b5, b6, b7, b8, b9⟩ := k
  refine ⟨b1, b2, b3, by rw [h 12 0 (by omega) (by omega)]; exact b4, by rw [h 12 1 (by omega) (by omega)]; exact b5, by rw [h 12 2 (by omega) (by omega)]; exact b6, fun p hp => ?_, fun d hd => ?_, fun k hk => ?_⟩
  · rw [h 13 p (by omega) (by omega), h 14 p (by omega) (by omega), h 15 p (by omega) (by omega)]; exact b7 p hp
  · rw [h 16 d (by omega) (by omega)]; exact b8 d hd
  · rw [h 17 k (by omega) (by omega), h 18 k (by omega) (by omega), h 19 k (by omega) (by omega)]; exact b9 k hk
theorem x_R_f {n m t : Nat} {M M' N N' : e_M} (h : ∀ r j, 12 ≤ r → r ≤ 19 → M' r j = M r j) (g : ∀ r j, (67 ≤ r ∧ r ≤ 99) → N' r j = N r j) (hn : n ≤ 6) (ht : t ≤ 12) (k : x_R n m t M N) : x_R n m t M' N' := by
  obtain ⟨c1, c2, c3, c4, c5, c6, c7⟩ := k
  refine ⟨by rw [g 67 0 (by omega)]; exact c1, by rw [g 67 1 (by omega)]; exact c2, by rw [g 67 2 (by omega)]; exact c3, fun p hp => ?_, fun p h1 h2 => ?_, fun d hd => ?_, fun k hk => ?_⟩
  · rw [g _ 0 (by omega), g _ 1 (by omega), g 71 p (by omega), h 13 p (by omega) (by omega), h 14 p (by omega) (by omega), h 15 p (by omega) (by omega)]; exact c4 p hp
  · rw [g 71 p (by omega)]; exact c5 p h1 h2
  · rw [g 69 d (by omega), h 16 d (by omega) (by omega)]; exact c6 d hd
  · rw [g _ 0 (by omega), g _ 1 (by omega), g _ 2 (by omega), h 17 k (by omega) (by omega), h 18 k (by omega) (by omega), h 19 k (by omega) (by omega)]; exact c7 k hk
theorem x_clz {T : Nat → Int} {e n m t s c : Nat} {M : e_M} (hT : ∀ j, j < 600 → 0 ≤ T j ∧ T j ≤ 255) (he : e ≤ 600) (hs : s ≤ e) (hss : t_s T e s = s) (hc : c ≤ 60) (hC : t_C T e s 0 (-1) M) (hB : x_B n m t M) : ∃ (n' m' t' a' : Nat) (fl fp : Int) (M' : e_M), (∀ f, 701 < f → ∀ K : e_M → Option (Int × e_M), (f_b (f_X7_readWord_1 f M) fun rr5 NN6 => (if (c : Int) < 60 then (f_b (f_X8_readClause f rr5 NN6) fun _ NN14 => (f_b (f_X7_expectSign f 59 NN14) fun _ NN16 => K NN16)) else (f_b (f_X7_noteFlaw 3 (NN6 2 6) NN6) fun _ NN8 => (f_b (f_X8_readClause f rr5 NN8) fun _ NN10 => (f_b (f_X7_expectSign f 59 NN10) fun _ NN12 => K NN12))))) = K M') ∧ t_C T e a' fl fp M' ∧ a' ≤ e ∧ (fl = 0 → c < 60 ∧ fp = -1 ∧ x_B n' m' t' M') ∧ x_FC M M' ∧ ∀ N, t_m T e s 0 (-1) N → N 64 7 = (c : Int) → x_R n m t M N → ∃ (b : Nat) (N' : e_M), (∀ f, 701 < f → f_X11_clause f N = some (0, N')) ∧ b ≤ e ∧ t_m T e b fl fp N' ∧ (fl = 0 → b = a' ∧ x_R n' m' t' M' N' ∧ N' 64 7 = ((c + 1 : Nat) : Int)) ∧ x_FM N N' := by
  obtain ⟨w, M2, a1, a2, a3, a4, a5, a6, a7, a8⟩ := x_w1 hT he hs hC
  rw [hss] at a4 a6 a7 a8
  have hB2 : x_B n m t M2 := x_B_f (fun r j _ _ => a5 r j (by omega)) hB
  have hE := (t_we_r (T := T) (n := e) (e - s) s rfl hs).2
  have fm : ∀ N N3 : e_M, t_fm N N3 → x_FM N N3 := fun N N3 h r j h1 h2 => h r j (by omega)
  by_cases w1 : w = -1
  · have C2 := a6 w1
    have h1 : (1 : Int) ≠ 0 := by decide
    refine ⟨0, 0, 0, s, 1, (s : Int), M2, fun f hf K => ?_, C2, hs, fun h => absurd h h1, fun r j x1 _ => a5 r j x1, fun N hN h7 hR => ?_⟩
    · rw [a1 f (by omega), f_bs]
      by_cases d : (c : Int) < 60
      · rw [if_pos d, x_rcf h1 C2, f_bs, t_es2 h1 C2, f_bs]
      · rw [if_neg d, t_C_f2 h1 C2, f_bs, x_rcf h1 C2, f_bs, t_es2 h1 C2, f_bs]
    · obtain ⟨N1, g1, g2, g3⟩ := a8 N hN
      rw [w1] at g1
      obtain ⟨N3, k1, k2, k3⟩ := x_mw (Or.inl ⟨rfl, rfl⟩) g1 g2 g3 h7 hR
      exact ⟨s, N3, k3, hs, k1, fun h => absurd h h1, fm N N3 k2⟩
  · have C2 := a7 w1
    have h3 : (3 : Int) ≠ 0 := by decide
    by_cases d : c < 60
    · by_cases fu : (w = 0 ∧ n = 6) ∨ (w = 1 ∧ m = 6) ∨ (w = 3 ∧ t = 12)
      · obtain ⟨M3, l1, l2, l3⟩ := x_full hB2 C2 a4 fu
        refine ⟨0, 0, 0, _, 3, (s : Int), M3, fun f hf K => ?_, l2, hE, fun h => absurd h h3, fun r j x1 _ => (a5.tr l3) r j x1, fun N hN h7 hR => ?_⟩
        · rw [a1 f (by omega), f_bs, if_pos (show (c : Int) < 60 by omega), l1 f, f_bs, t_es2 h3 l2, f_bs]
        · obtain ⟨N1, g1, g2, g3⟩ := a8 N hN
          obtain ⟨N3, k1, k2, k3⟩ := x_mw (k := 3) (Or.inr ⟨by split <;> (try split) <;> omega, by split <;> (try split) <;> omega, rfl, Or.inr ⟨d, by rcases fu with ⟨rfl, z⟩ | ⟨rfl, z⟩ | ⟨rfl, z⟩ <;> simp [z]⟩⟩) g1 g2 g3 h7 hR
          exact ⟨s, N3, k3, hs, k1, fun h => absurd h h3, fm N N3 k2⟩
      · have hJ : ∃ κ w0, (if w = 2 then 3 else if w = 3 then 2 else w) = κ ∧ ((κ = 0 ∧ n < 6 ∧ w0 = (n : Int)) ∨ (κ = 1 ∧ m < 6 ∧ w0 = (m : Int)) ∨ (κ = 2 ∧ t < 12 ∧ w0 = (t : Int)) ∨ (κ = 3 ∧ w0 = 0)) ∧ x_J T e n m t (t_we T e (e - s) s) w κ w0 M2 := by
          have b1 := hB.1
          have b2 := hB.2.1
          have b3 := hB.2.2.1
          have hw4 : w = 0 ∨ w = 1 ∨ w = 2 ∨ w = 3 := by omega
          rcases hw4 with rfl | rfl | rfl | rfl
          · exact ⟨0, (n : Int), by decide, Or.inl ⟨rfl, by omega, rfl⟩, x_per hT he hE C2 hB2 (by omega)⟩
          · exact ⟨1, (m : Int), by decide, Or.inr (Or.inl ⟨rfl, by omega, rfl⟩), x_dut hT he hE C2 hB2 (by omega)⟩
          · exact ⟨3, 0, by decide, Or.inr (Or.inr (Or.inr ⟨rfl, rfl⟩)), x_ski hT he hE C2 hB2⟩
          · exact ⟨2, (t : Int), by decide, Or.inr (Or.inr (Or.inl ⟨rfl, by omega, rfl⟩)), x_tas hT he hE C2 hB2 (by omega)⟩
        obtain ⟨κ, w0, hκ, hκ2, n', m', t', a', fl, fp, M', j1, j2, j3, j4, j5, j6⟩ := hJ
        refine ⟨n', m', t', a', fl, fp, M', fun f hf K => ?_, j2, j3, fun hz => ⟨d, j4 hz⟩, fun r j x1 x2 => by rw [j5 r j x1 x2, a5 r j x1], fun N hN h7 hR => ?_⟩
        · rw [a1 f (by omega), f_bs, if_pos (show (c : Int) < 60 by omega), x_ba, j1 f hf, f_bs]
        · obtain ⟨N1, g1, g2, g3⟩ := a8 N hN
          rw [hκ] at g1
          obtain ⟨N3, k1, k2, k3, k4⟩ := x_md hT he hs hκ2 g1 g2 g3 h7 d hR
          obtain ⟨N', o1, o2, o3, o4, o5⟩ := j6 N3 k1 (x_R_f (fun r j _ _ => a5 r j (by omega)) (fun r j h => k2 r j (by omega)) hB.1 hB.2.2.1 hR)
          refine ⟨a', N', fun f hf => by rw [k4 f hf]; exact o1 f hf, j3, o2, fun hz => ⟨rfl, o3 hz, by rw [o5]; exact k3⟩, fun r j x1 x2 => by rw [o4 r j x1 x2, k2 r j x1]⟩
    · obtain ⟨l1, l2, l3⟩ := t_C_fl (k := 3) (p := (s : Int)) C2
      refine ⟨0, 0, 0, _, 3, (s : Int), _, fun f hf K => ?_, l2, hE, fun h => absurd h h3, fun r j x1 _ => (a5.tr l3) r j x1, fun N hN h7 hR => ?_⟩
      · rw [a1 f (by omega), f_bs, if_neg (show ¬ (c : Int) < 60 by omega), a4, l1, f_bs, x_rcf h3 l2, f_bs, t_es2 h3 l2, f_bs]
      · obtain ⟨N1, g1, g2, g3⟩ := a8 N hN
        obtain ⟨N3, k1, k2, k3⟩ := x_mw (k := 3) (Or.inr ⟨by split <;> (try split) <;> omega, by split <;> (try split) <;> omega, rfl, Or.inl (by omega)⟩) g1 g2 g3 h7 hR
        exact ⟨s, N3, k3, hs, k1, fun h => absurd h h3, fm N N3 k2⟩
