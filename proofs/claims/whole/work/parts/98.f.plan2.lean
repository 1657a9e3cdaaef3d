/-! A WORK'S TEXT, 2: one step -/
def p_X (u2 g : Nat) (N : e_M) : Option (Int × e_M) := (f_b (f_X11_sign g 93 N) fun _ NN8 => (f_b (f_X11_sign g 59 (e_up (e_up NN8 64 8 (e_w ((NN8 64 8) - 1))) u2 3 ((e_up NN8 64 8 (e_w ((NN8 64 8) - 1))) 64 30))) fun _ NN10 => (some (0, NN10))))
/-- the steps of a loop, up to what closes it -/
def p_I (T : Nat → Int) (e n t o : Nat) (rs : e_M → Option (Int × e_M)) (mk : Nat → e_M → Option (Int × e_M)) : Prop := ∀ (a l : Nat) (M : e_M), p_C T e n t a l M → ∃ (a' l' : Nat) (fl fp : Int) (M' : e_M), rs M = some (0, M') ∧ a' ≤ e ∧ t_C T e a' fl fp M' ∧ (fl = 0 → fp = -1 ∧ M' 32 0 = (l' : Int) ∧ 5 * l' ≤ a' ∧ a ≤ a' ∧ l ≤ l' ∧ p_S n t M' (6 - o) l l') ∧ p_FC l M M' ∧ ∀ (u2 : Nat) (N : e_M), p_N T e n t o (t_s T e a) l N → ∀ G, 2000 < G → ∃ (b g : Nat) (N' : e_M), 610 < g ∧ f_X11_readsStep_135 (mk G) u2 G 4 N = p_X u2 g N' ∧ b ≤ e ∧ t_m T e b fl fp N' ∧ (fl = 0 → b = a' ∧ N' 64 30 = (l' : Int) ∧ N' 64 8 = (o : Int) ∧ p_E M' N' l l') ∧ p_FN l N N'
theorem p_len {T : Nat → Int} {s E : Nat} {w : Int} (h : t_i3 T s E = w) (hw : w ≠ -1) : 0 ≤ w ∧ w ≤ 4 ∧ s + 3 ≤ E ∧ (w = 3 → s + 4 ≤ E) ∧ (w = 4 → s + 5 ≤ E) := by
  unfold t_i3 at h
  by_cases c0 : t_mt 3 T s E 0 3 = true
  · rw [if_pos c0] at h
    have := (of_decide_eq_true c0).1
    omega
  rw [if_neg c0] at h
  by_cases c1 : t_mt 3 T s E 4 4 = true
  · rw [if_pos c1] at h
    have := (of_decide_eq_true c1).1
    omega
  rw [if_neg c1] at h
  by_cases c2 : t_mt 3 T s E 9 5 = true
  · rw [if_pos c2] at h
    have := (of_decide_eq_true c2).1
    omega
  rw [if_neg c2] at h
  by_cases c3 : t_mt 3 T s E 15 4 = true
  · rw [if_pos c3] at h
    have := (of_decide_eq_true c3).1
    omega
  rw [if_neg c3] at h
  by_cases c4 : t_mt 3 T s E 20 5 = true
  · rw [if_pos c4] at h
    have := (of_decide_eq_true c4).1
    omega
  rw [if_neg c4] at h
  exact absurd h.symm hw
theorem p_stp {T : Nat → Int} {e n t o F : Nat} {rs : Int → e_M → Option (Int × e_M)} {mk : Nat → e_M → Option (Int × e_M)} (hF : 2000 < F) (hT : ∀ j, j < 600 → 0 ≤ T j ∧ T j ≤ 255) (he : e ≤ 150) (hn : n ≤ 6) (ht : t ≤ 12) (ho : o ≤ 6) (hI : o < 6 → p_I T e n t (o + 1) (fun M => rs ((o + 1 : Nat) : Int) M) mk) (hIf : o < 6 → ∀ (a : Nat) (fl fp : Int) (M : e_M), fl ≠ 0 → t_C T e a fl fp M → rs ((o + 1 : Nat) : Int) M = some (0, M)) : p_Q T e n t o (fun M => f_X4_readStep (fun x1 x2 N => f_X4_readAgain rs F x1 x2 N) F (o : Int) M) (fun G N => f_X11_readsStep (mk G) G N) := by
  intro s l M hss hC
  obtain ⟨c1, c2, c3, c4, c5, c6⟩ := hC
  obtain ⟨M1, q1, q2, q3, q4⟩ := t_rw (j := 3) hT (by omega) (t_i3 T) (fun s E M h3 hs hE f hf => t_iw3 hT h3 hE hs f hf) c1 c2
  rw [hss] at q1 q2 q3
  have rw3 : f_X7_readWord_3 F M = some (t_i3 T s (t_we T e (e - s) s), M1) := q1 F (by omega)
  have hE := (t_we_r (T := T) (n := e) (e - s) s rfl c1).2
  have one : ∀ N, p_N T e n t o s l N → ∃ N1, t_m T e s 0 (-1) N1 ∧ t_fm N N1 ∧ ∀ G, 2000 < G → f_X11_stepHere G N = some (t_i3 T s (t_we T e (e - s) s), N1) := fun N hN => by
    obtain ⟨N1, a1, a2, a3⟩ := t_step hT (by omega) c1 hss hN.1
    exact ⟨N1, a2, a3, fun G hG => a1 G (by omega)⟩
  have skp : ∀ N1, t_m T e s 0 (-1) N1 → ∃ N2, (∀ G, 2000 < G → f_X11_skipWord G N1 = some (0, N2)) ∧ t_m T e (t_we T e (e - s) s) 0 (-1) N2 ∧ t_fm N1 N2 := fun N1 h => by
    obtain ⟨N2, a1, a2, a3⟩ := t_skw hT (by omega) (e - s) s N1 rfl c1 h
    exact ⟨N2, fun G hG => a1 G (by omega), a2, a3⟩
  obtain ⟨w, hw⟩ : ∃ w, t_i3 T s (t_we T e (e - s) s) = w := ⟨_, rfl⟩
  rw [hw] at q2 rw3 one
  by_cases w1 : w = -1
  · rw [if_pos w1, if_pos w1, if_pos w1] at q2
    subst w1
    have h1 : (1 : Int) ≠ 0 := by decide
    refine ⟨s, 0, 1, (s : Int), M1, fun f hf => ?_, c1, q2, fun hz => absurd hz h1, q4.p, fun N hN G hG => ?_⟩
    · show (f_b (f_X4_readStep _ F (o : Int) M) fun _ NN => f_X7_expectSign f 59 NN) = _
      unfold f_X4_readStep
      rw [rw3, f_bs, if_pos rfl, f_bs]
      exact t_es2 h1 q2
    · obtain ⟨N1, n1, n2, n3⟩ := one N hN
      obtain ⟨d1, d2, d3⟩ := t_m_fl (k := 1) (p := (s : Int)) n1
      refine ⟨s, _, ?_, c1, d2, fun hz => absurd hz h1, (n2.tr d3).p⟩
      show f_X11_readsStep (mk G) G N = _
      unfold f_X11_readsStep f_X11_readsStep_32
      rw [n3 G hG, f_bs, if_neg (show ¬ ¬ (-1 : Int) = -1 by decide), n1.2.1, d1, f_bs, if_pos (show ¬ (-1 : Int) = 4 by decide), d2.2.2.1, if_neg h1]
  rw [if_neg w1, if_neg w1, if_neg w1] at q2
  obtain ⟨w2, w3, w4, w5, w6⟩ := p_len hw w1
  generalize t_we T e (e - s) s = E at *
  have h32 : M1 32 0 = (l : Int) := by rw [q4 32 0 (by omega)]; exact c3
  have hlt : 0 ≤ (l : Int) ∧ (l : Int) < 30 := by omega
  have hl80 : 0 ≤ (l : Int) ∧ (l : Int) < 80 := by omega
  obtain ⟨M2, hM2⟩ : ∃ X, X = e_up (e_up (e_up M1 32 0 ((l + 1 : Nat) : Int)) 33 l w) 34 l 0 := ⟨_, rfl⟩
  have C2 : t_C T e E 0 (-1) M2 := by rw [hM2]; exact t_C_u (by decide) (by decide) (t_C_u (by decide) (by decide) (t_C_u (by decide) (by decide) q2))
  have g32 : M2 32 0 = ((l + 1 : Nat) : Int) := by rw [hM2, u_r (by decide), u_r (by decide), u_s]
  have g33 : M2 33 l = w := by rw [hM2, u_r (by decide), u_s]
  have g34 : M2 34 l = 0 := by rw [hM2, u_s]
  have g26 : M2 2 6 = (s : Int) := by rw [hM2, u_r (by decide), u_r (by decide), u_r (by decide)]; exact q3
  have g40 : M2 4 0 = (n : Int) := by rw [hM2, u_r (by decide), u_r (by decide), u_r (by decide), q4 4 0 (by omega)]; exact c5
  have g42 : M2 4 2 = (t : Int) := by rw [hM2, u_r (by decide), u_r (by decide), u_r (by decide), q4 4 2 (by omega)]; exact c6
  have F2 : p_FC l M M2 := fun r j x1 x2 x3 => by
    rw [hM2]
    by_cases e4 : r = 34
    · subst e4; rw [u_c (by omega), u_r (by decide), u_r (by decide), q4 34 j x1]
    · rw [u_r e4]
      by_cases e3 : r = 33
      · subst e3; rw [u_c (by omega), u_r (by decide), q4 33 j x1]
      · rw [u_r e3]
        by_cases e2 : r = 32
        · subst e2; rw [u_c (by omega), q4 32 j x1]
        · rw [u_r e2, q4 r j x1]
  have pre : ∀ rc, f_X4_readStep rc F (o : Int) M = (if w = 0 then (f_b (f_X7_readNumber F 0 ((n : Int) - 1) M2) fun rr9 NN10 => (some (0, (e_up (e_up NN10 34 l rr9) 35 l ((e_up NN10 34 l rr9) 32 0))))) else (if ¬ w = 1 then (if ¬ w = 2 then (if ¬ w = 4 then (some (0, (e_up M2 35 l (M2 32 0)))) else (f_b (rc (o : Int) (l : Int) M2) fun _ NN8 => (some (0, (e_up NN8 35 l (NN8 32 0)))))) else (f_b (f_X7_readNumber F 0 ((t : Int) - 1) M2) fun rr5 NN6 => (some (0, (e_up (e_up NN6 34 l rr5) 35 l ((e_up NN6 34 l rr5) 32 0)))))) else (f_b (f_X7_readNumber F 0 ((n : Int) - 1) M2) fun rr3 NN4 => (some (0, (e_up (e_up NN4 34 l rr3) 35 l ((e_up NN4 34 l rr3) 32 0))))))) := fun rc => by
    unfold f_X4_readStep
    rw [rw3, f_bs, if_neg w1, h32, if_pos hlt.2]
    simp only [eq_true hlt, ↓reduceIte, Int.toNat_natCast, y_ei (show l < 1000000 by omega)]
    rw [← hM2, g40, g42, e_ws_ (x := (n : Int) - 1) (by omega) (by omega), e_ws_ (x := (t : Int) - 1) (by omega) (by omega)]
  -- the model, up to the word
  have mod : ∀ N, p_N T e n t o s l N → w ≠ 4 → ∀ G, 2000 < G → ∃ N3, t_m T e E 0 (-1) N3 ∧ N3 64 30 = ((l + 1 : Nat) : Int) ∧ N3 64 8 = (o : Int) ∧ N3 (452 + l) 0 = w ∧ p_FN l N N3 ∧ f_X11_readsStep (mk G) G N = (if 2 ≤ w then (if ¬ w = 2 then (f_X11_readsStep_110 (mk G) (452 + l) G w N3) else (f_b (f_X11_number G 0 ((t : Int) - 1) N3) fun rr62 NN63 => (f_X11_readsStep_110 (mk G) (452 + l) G w (e_up NN63 (452 + l) 1 rr62)))) else (f_b (f_X11_number G 0 ((n : Int) - 1) N3) fun rr58 NN59 => (if ¬ w = 2 then (f_X11_readsStep_110 (mk G) (452 + l) G w (e_up NN59 (452 + l) 1 rr58)) else (f_b (f_X11_number G 0 (e_w (((e_up NN59 (452 + l) 1 rr58) 68 2) - 1)) (e_up NN59 (452 + l) 1 rr58)) fun rr60 NN61 => (f_X11_readsStep_110 (mk G) (452 + l) G w (e_up NN61 (452 + l) 1 rr60)))))) := fun N hN h4 G hG => by
    obtain ⟨N1, n1, n2, n3⟩ := one N hN
    obtain ⟨N2, d1, d2, d3⟩ := skp N1 n1
    have fr := n2.tr d3
    have e30 : N2 64 30 = (l : Int) := by rw [fr 64 30 (by omega)]; exact hN.2.1
    have e68 : N2 68 0 = (n : Int) := by rw [fr 68 0 (by omega)]; exact hN.2.2.2.1
    have e682 : N2 68 2 = (t : Int) := by rw [fr 68 2 (by omega)]; exact hN.2.2.2.2
    refine ⟨e_up (e_up N2 64 30 ((l + 1 : Nat) : Int)) (452 + l) 0 w, t_m_u (by omega) (by omega) (t_m_v (by decide) d2), by rw [u_r (by omega), u_s], by rw [u_r (by omega), u_c (by decide), fr 64 8 (by omega)]; exact hN.2.2.1, u_s _ _ _ _, fun r j x1 x2 => ?_, ?_⟩
    · rw [u_r (by omega)]
      by_cases er : r = 64
      · subst er; rw [u_c (by omega), fr 64 j (by omega)]
      · rw [u_r er, fr r j (by omega)]
    · unfold f_X11_readsStep f_X11_readsStep_32
      rw [n3 G hG, f_bs, if_pos w1, if_pos h4, n1.2.2.1, if_pos rfl, d1 G hG, f_bs, e30, if_pos hl80, Int.toNat_natCast, y_ei (by omega), u_r (show (68 : Nat) ≠ 452 + l by omega), u_r (show (68 : Nat) ≠ 452 + l by omega), u_r (show (68 : Nat) ≠ 64 by decide), u_r (show (68 : Nat) ≠ 64 by decide), e68, e682, e_ws_ (x := (n : Int) - 1) (by omega) (by omega), e_ws_ (x := (t : Int) - 1) (by omega) (by omega)]
  have hp1 : ∀ (M' : e_M) (v : Int), M' 35 l = ((l + 1 : Nat) : Int) → M' 33 l = w → M' 34 l = v → p_ok n t w v → p_1 n t M' (6 - o) l (l + 1) := fun M' v x1 x2 x3 x4 => ⟨by omega, x1, Or.inl ⟨rfl, by rw [x2, x3]; exact x4⟩⟩
  -- a step with a number
  have num : ∀ hi : Int, hi < 100000 → (∀ v, 0 ≤ v → v ≤ hi → p_ok n t w v) → w ≠ 4 → w ≠ 3 → (∀ rc, f_X4_readStep rc F (o : Int) M = (f_b (f_X7_readNumber F 0 hi M2) fun rr9 NN10 => (some (0, (e_up (e_up NN10 34 l rr9) 35 l ((e_up NN10 34 l rr9) 32 0)))))) → (∀ N, p_N T e n t o s l N → ∀ G, 2000 < G → ∃ N3, t_m T e E 0 (-1) N3 ∧ N3 64 30 = ((l + 1 : Nat) : Int) ∧ N3 64 8 = (o : Int) ∧ N3 (452 + l) 0 = w ∧ p_FN l N N3 ∧ f_X11_readsStep (mk G) G N = (f_b (f_X11_number G 0 hi N3) fun rr62 NN63 => (f_X11_readsStep_110 (mk G) (452 + l) G w (e_up NN63 (452 + l) 1 rr62)))) → ∃ (a' l' : Nat) (fl fp : Int) (M' : e_M), (∀ f, 601 < f → (f_b (f_X4_readStep (fun x1 x2 N => f_X4_readAgain rs F x1 x2 N) F (o : Int) M) fun _ NN => f_X7_expectSign f 59 NN) = some (0, M')) ∧ a' ≤ e ∧ t_C T e a' fl fp M' ∧ (fl = 0 → fp = -1 ∧ M' 32 0 = (l' : Int) ∧ 5 * l' ≤ a' ∧ s + 5 ≤ a' ∧ p_1 n t M' (6 - o) l l') ∧ p_FC l M M' ∧ ∀ N, p_N T e n t o s l N → ∀ G, 2000 < G → ∃ (b : Nat) (N' : e_M), f_X11_readsStep (mk G) G N = some (0, N') ∧ b ≤ e ∧ t_m T e b fl fp N' ∧ (fl = 0 → b = a' ∧ N' 64 30 = (l' : Int) ∧ N' 64 8 = (o : Int) ∧ p_E M' N' l l') ∧ p_FN l N N' := by
    intro hi hh hok hw4 hw3 hcl hmd
    obtain ⟨v, a3, f3, p3, M3, r1, r2, r3, r4, r5, r6, r7⟩ := x_rn (lo := 0) (hi := hi) hT (by omega) hh hE C2
    have C4 : t_C T e a3 f3 p3 (e_up (e_up M3 34 l v) 35 l ((l + 1 : Nat) : Int)) := t_C_u (by decide) (by decide) (t_C_u (by decide) (by decide) r2)
    obtain ⟨a5, f5, p5, M5, k1, k2, k3, k4, k5, k6⟩ := x_es2 (c := 59) hT (by omega) (by decide) r4 C4
    have e32 : M3 32 0 = ((l + 1 : Nat) : Int) := by rw [r5 32 0 (by omega)]; exact g32
    refine ⟨a5, l + 1, f5, p5, M5, fun f hf => ?_, k3, k2, fun hz => ?_, fun r j x1 x2 x3 => ?_, fun N hN G hG => ?_⟩
    · rw [hcl, r1 F (by omega), f_bs, f_bs, u_r (show (32 : Nat) ≠ 34 by decide), e32]
      exact k1 f hf
    · obtain ⟨z1, z2, z3⟩ := k5 hz
      obtain ⟨y1, y2, y3, y4, y5, y6⟩ := r6 z1
      refine ⟨by rw [z2, y2], by rw [k4 32 0 (by omega), u_r (by decide), u_r (by decide)]; exact e32, by omega, by omega, hp1 M5 v ?_ ?_ ?_ (hok v y3 y4)⟩
      · rw [k4 35 l (by omega), u_s]
      · rw [k4 33 l (by omega), u_r (by decide), u_r (by decide), r5 33 l (by omega)]; exact g33
      · rw [k4 34 l (by omega), u_r (by decide), u_s]
    · rw [k4 r j x1]
      by_cases e4 : r = 35
      · subst e4; rw [u_c (by omega), u_r (by decide), r5 35 j x1, F2 35 j x1 x2 x3]
      · rw [u_r e4]
        by_cases e3 : r = 34
        · subst e3; rw [u_c (by omega), r5 34 j x1, F2 34 j x1 x2 x3]
        · rw [u_r e3, r5 r j x1, F2 r j x1 x2 x3]
    · obtain ⟨N3, i1, i2, i3, i4, i5, i6⟩ := hmd N hN G hG
      obtain ⟨N4, j1, j2, j3⟩ := r7 N3 i1
      have t4 : t_m T e a3 f3 p3 (e_up (e_up N4 (452 + l) 1 (if f3 = 0 then v else 0)) (452 + l) 3 ((l + 1 : Nat) : Int)) := t_m_u (by omega) (by omega) (t_m_u (by omega) (by omega) j2)
      obtain ⟨b5, N5, m1, m2, m3, m4, m5⟩ := k6 a3 _ r4 (fun _ => rfl) t4
      have e30 : N4 64 30 = ((l + 1 : Nat) : Int) := by rw [j3 64 30 (by omega)]; exact i2
      refine ⟨b5, N5, ?_, m2, m4, fun hz => ⟨m3 hz, ?_, ?_, fun k x1 x2 => ?_⟩, fun r j x1 x2 => ?_⟩
      · rw [i6, j1 G (by omega), f_bs]
        unfold f_X11_readsStep_110
        rw [if_pos hw4, u_r (show (64 : Nat) ≠ 452 + l by omega), e30, m1 G (by omega), f_bs]
      · rw [m5 64 30 (by omega), u_r (by omega), u_r (by omega)]; exact e30
      · rw [m5 64 8 (by omega), u_r (by omega), u_r (by omega), j3 64 8 (by omega)]; exact i3
      · obtain ⟨z1, z2, z3⟩ := k5 hz
        have ek : k = l := by omega
        subst ek
        rw [m5 _ 0 (by omega), m5 _ 1 (by omega), m5 _ 3 (by omega), u_c (by decide), u_c (by decide), u_c (by decide), u_s, u_s, if_pos z1, j3 _ 0 (by omega), i4, k4 33 k (by omega), k4 34 k (by omega), k4 35 k (by omega), u_r (by decide), u_r (by decide), u_r (by decide), u_s, u_s, r5 33 k (by omega), g33]
        exact ⟨rfl, fun _ => rfl, rfl⟩
      · rw [m5 r j (by omega), u_r (by omega), u_r (by omega), j3 r j (by omega), i5 r j x1 x2]
  have hw5 : w = 0 ∨ w = 1 ∨ w = 2 ∨ w = 3 ∨ w = 4 := by omega
  rcases hw5 with h0 | h1 | h2 | h3 | h4
  · refine num ((n : Int) - 1) (by omega) (fun v x1 x2 => Or.inl ⟨Or.inl h0, x1, by omega⟩) (by omega) (by omega) (fun rc => by rw [pre rc, if_pos h0]) (fun N hN G hG => ?_)
    obtain ⟨N3, i1, i2, i3, i4, i5, i6⟩ := mod N hN (by omega) G hG
    exact ⟨N3, i1, i2, i3, i4, i5, by rw [i6, if_neg (show ¬ 2 ≤ w by omega)]; simp only [if_pos (show ¬ w = 2 by omega)]⟩
  · refine num ((n : Int) - 1) (by omega) (fun v x1 x2 => Or.inl ⟨Or.inr h1, x1, by omega⟩) (by omega) (by omega) (fun rc => by rw [pre rc, if_neg (show ¬ w = 0 by omega), if_neg (not_not_intro h1)]) (fun N hN G hG => ?_)
    obtain ⟨N3, i1, i2, i3, i4, i5, i6⟩ := mod N hN (by omega) G hG
    exact ⟨N3, i1, i2, i3, i4, i5, by rw [i6, if_neg (show ¬ 2 ≤ w by omega)]; simp only [if_pos (show ¬ w = 2 by omega)]⟩
  · refine num ((t : Int) - 1) (by omega) (fun v x1 x2 => Or.inr (Or.inl ⟨h2, x1, by omega⟩)) (by omega) (by omega) (fun rc => by rw [pre rc, if_neg (show ¬ w = 0 by omega), if_pos (show ¬ w = 1 by omega), if_neg (not_not_intro h2)]) (fun N hN G hG => ?_)
    obtain ⟨N3, i1, i2, i3, i4, i5, i6⟩ := mod N hN (by omega) G hG
    exact ⟨N3, i1, i2, i3, i4, i5, by rw [i6, if_pos (show 2 ≤ w by omega), if_neg (not_not_intro h2)]⟩
  · -- a week
    have C4 : t_C T e E 0 (-1) (e_up M2 35 l ((l + 1 : Nat) : Int)) := t_C_u (by decide) (by decide) C2
    obtain ⟨a5, f5, p5, M5, k1, k2, k3, k4, k5, k6⟩ := x_es2 (c := 59) hT (by omega) (by decide) hE C4
    have hE4 := w5 h3
    refine ⟨a5, l + 1, f5, p5, M5, fun f hf => ?_, k3, k2, fun hz => ?_, fun r j x1 x2 x3 => ?_, fun N hN G hG => ?_⟩
    · show (f_b (f_X4_readStep _ F (o : Int) M) fun _ NN => f_X7_expectSign f 59 NN) = _
      rw [pre, if_neg (show ¬ w = 0 by omega), if_pos (show ¬ w = 1 by omega), if_pos (show ¬ w = 2 by omega), if_pos (show ¬ w = 4 by omega), f_bs, g32]
      exact k1 f hf
    · obtain ⟨z1, z2, z3⟩ := k5 hz
      refine ⟨z2, by rw [k4 32 0 (by omega), u_r (by decide)]; exact g32, by omega, by omega, hp1 M5 0 ?_ ?_ ?_ (Or.inr (Or.inr h3))⟩
      · rw [k4 35 l (by omega), u_s]
      · rw [k4 33 l (by omega), u_r (by decide)]; exact g33
      · rw [k4 34 l (by omega), u_r (by decide)]; exact g34
    · rw [k4 r j x1]
      by_cases e4 : r = 35
      · subst e4; rw [u_c (by omega), F2 35 j x1 x2 x3]
      · rw [u_r e4, F2 r j x1 x2 x3]
    · obtain ⟨N3, i1, i2, i3, i4, i5, i6⟩ := mod N hN (by omega) G hG
      have t4 : t_m T e E 0 (-1) (e_up N3 (452 + l) 3 ((l + 1 : Nat) : Int)) := t_m_u (by omega) (by omega) i1
      obtain ⟨b5, N5, m1, m2, m3, m4, m5⟩ := k6 E _ hE (fun _ => rfl) t4
      refine ⟨b5, N5, ?_, m2, m4, fun hz => ⟨m3 hz, ?_, ?_, fun k x1 x2 => ?_⟩, fun r j x1 x2 => ?_⟩
      · show f_X11_readsStep (mk G) G N = _
        rw [i6, if_pos (show 2 ≤ w by omega), if_pos (show ¬ w = 2 by omega)]
        unfold f_X11_readsStep_110
        rw [if_pos (show ¬ w = 4 by omega), i2, m1 G (by omega), f_bs]
      · rw [m5 64 30 (by omega), u_r (by omega)]; exact i2
      · rw [m5 64 8 (by omega), u_r (by omega)]; exact i3
      · have ek : k = l := by omega
        subst ek
        rw [m5 _ 0 (by omega), m5 _ 3 (by omega), u_c (by decide), u_s, i4, k4 33 k (by omega), k4 35 k (by omega), u_r (by decide), u_s, g33]
        exact ⟨rfl, fun x => absurd h3 x, rfl⟩
      · rw [m5 r j (by omega), u_r (by omega), i5 r j x1 x2]
  · -- a loop
    have hE5 := w6 h4
    subst h4
    have preA : f_X4_readStep (fun x1 x2 N => f_X4_readAgain rs F x1 x2 N) F (o : Int) M = (f_b (f_X4_readAgain rs F (o : Int) (l : Int) M2) fun _ NN8 => (some (0, (e_up NN8 35 l (NN8 32 0))))) := by
      rw [pre, if_neg (show ¬ (4 : Int) = 0 by decide), if_pos (show ¬ (4 : Int) = 1 by decide), if_pos (show ¬ (4 : Int) = 2 by decide), if_neg (show ¬ ¬ (4 : Int) = 4 by decide)]
    by_cases co : o < 6
    · obtain ⟨v, a3, f3, p3, M3, r1, r2, r3, r4, r5, r6, r7⟩ := x_rn (lo := 0) (hi := 60) hT (by omega) (by decide) hE C2
      have C4 : t_C T e a3 f3 p3 (e_up M3 34 l v) := t_C_u (by decide) (by decide) r2
      obtain ⟨a5, f5, p5, M5, k1, k2, k3, k4, k5, k6⟩ := x_es2 (c := 91) hT (by omega) (by decide) r4 C4
      have F5 : ∀ r j, ¬ (r = 2 ∧ 3 ≤ j ∧ j ≤ 6) → ¬ (r = 34 ∧ j = l) → M5 r j = M2 r j := fun r j x1 x2 => by
        rw [k4 r j x1]
        by_cases e3 : r = 34
        · subst e3; rw [u_c (by omega), r5 34 j x1]
        · rw [u_r e3, r5 r j x1]
      have v34 : M5 34 l = v := by rw [k4 34 l (by omega), u_s]
      -- the inner steps
      have inn : ∃ (a' l' : Nat) (fl fp : Int) (M' : e_M), rs ((o + 1 : Nat) : Int) M5 = some (0, M') ∧ a' ≤ e ∧ t_C T e a' fl fp M' ∧ (fl = 0 → f5 = 0 ∧ fp = -1 ∧ M' 32 0 = (l' : Int) ∧ 5 * l' ≤ a' ∧ a5 ≤ a' ∧ l + 1 ≤ l' ∧ p_S n t M' (6 - (o + 1)) (l + 1) l') ∧ p_FC (l + 1) M5 M' ∧ ∀ (u2 b5 : Nat) (N : e_M), b5 ≤ e → t_m T e b5 f5 p5 N → (f5 = 0 → b5 = a5 ∧ N 64 30 = ((l + 1 : Nat) : Int) ∧ N 64 8 = ((o + 1 : Nat) : Int) ∧ N 68 0 = (n : Int) ∧ N 68 2 = (t : Int)) → ∀ G, 2000 < G → ∃ (b g : Nat) (N' : e_M), 610 < g ∧ (f_b (f_X11_blanks G N) fun _ NN => f_X11_readsStep_135 (mk G) u2 G 4 NN) = p_X u2 g N' ∧ b ≤ e ∧ t_m T e b fl fp N' ∧ (fl = 0 → b = a' ∧ N' 64 30 = (l' : Int) ∧ N' 64 8 = ((o + 1 : Nat) : Int) ∧ p_E M' N' (l + 1) l') ∧ p_FN (l + 1) N N' := by
        by_cases hf5 : f5 = 0
        · obtain ⟨z1, z2, z3⟩ := k5 hf5
          obtain ⟨y1, y2, y3, y4, y5, y6⟩ := r6 z1
          have hp5 : p5 = -1 := by rw [z2, y2]
          subst hf5; subst hp5
          obtain ⟨a', l', fl, fp, M', s1, s2, s3, s4, s5, s6⟩ := hI co a5 (l + 1) M5 ⟨k3, k2, by rw [F5 32 0 (by omega) (by omega)]; exact g32, by omega, by rw [F5 4 0 (by omega) (by omega)]; exact g40, by rw [F5 4 2 (by omega) (by omega)]; exact g42⟩
          refine ⟨a', l', fl, fp, M', s1, s2, s3, fun hz => ⟨rfl, s4 hz⟩, s5, fun u2 b5 N h1 h2 h3 G hG => ?_⟩
          obtain ⟨x1, x2, x3, x4, x5⟩ := h3 rfl
          subst x1
          obtain ⟨N2, o1, o2, o3⟩ := t_bl hT (by omega) (e - b5) b5 0 (-1) N rfl h1 h2
          obtain ⟨b, g, N', i1, i2, i3, i4, i5, i6⟩ := s6 u2 N2 ⟨o2, by rw [o3 64 30 (by omega)]; exact x2, by rw [o3 64 8 (by omega)]; exact x3, by rw [o3 68 0 (by omega)]; exact x4, by rw [o3 68 2 (by omega)]; exact x5⟩ G hG
          exact ⟨b, g, N', i1, by rw [o1 G (by omega), f_bs]; exact i2, i3, i4, i5, p_FN.tr (Nat.le_refl _) o3.p i6⟩
        · refine ⟨a5, 0, f5, p5, M5, hIf co a5 f5 p5 M5 hf5 k2, k3, k2, fun hz => absurd hz hf5, fun _ _ _ _ _ => rfl, fun u2 b5 N h1 h2 h3 G hG => ?_⟩
          obtain ⟨N2, o1, o2, o3⟩ := t_bl hT (by omega) (e - b5) b5 f5 p5 N rfl h1 h2
          refine ⟨t_s T e b5, G - 1, N2, by omega, ?_, (t_s_p (T := T) (e - b5) b5 rfl).2.1 h1, o2, fun hz => absurd hz hf5, o3.p⟩
          obtain ⟨G', rfl⟩ : ∃ G', G = G' + 1 := ⟨G - 1, by omega⟩
          rw [o1 (G' + 1) (by omega), f_bs, f_X11_readsStep_135, o2.2.2.1, if_pos hf5]
          rfl
      obtain ⟨a6, l6, f6, p6, M6, s1, s2, s3, s4, s5, s6⟩ := inn
      obtain ⟨a7, f7, p7, M7, t1, t2, t3, t4, t5, t6⟩ := x_es2 (c := 93) hT (by omega) (by decide) s2 s3
      have C8 : t_C T e a7 f7 p7 (e_up M7 35 l (M7 32 0)) := t_C_u (by decide) (by decide) t2
      obtain ⟨a9, f9, p9, M9, v1, v2, v3, v4, v5, v6⟩ := x_es2 (c := 59) hT (by omega) (by decide) t3 C8
      have F9 : ∀ r j, ¬ (r = 2 ∧ 3 ≤ j ∧ j ≤ 6) → ¬ (r = 35 ∧ j = l) → M9 r j = M6 r j := fun r j x1 x2 => by
        rw [v4 r j x1]
        by_cases e3 : r = 35
        · subst e3; rw [u_c (by omega), t4 35 j x1]
        · rw [u_r e3, t4 r j x1]
      refine ⟨a9, l6, f9, p9, M9, fun f hf => ?_, v3, v2, fun hz => ?_, fun r j x1 x2 x3 => ?_, fun N hN G hG => ?_⟩
      · show (f_b (f_X4_readStep _ F (o : Int) M) fun _ NN => f_X7_expectSign f 59 NN) = _
        rw [preA]
        unfold f_X4_readAgain
        rw [if_pos (show (o : Int) < 6 by omega), r1 F (by omega), f_bs, if_pos hlt, Int.toNat_natCast, k1 F (by omega), f_bs, y_ei (by omega), s1, f_bs, t1 F (by omega), f_bs, f_bs, f_bs]
        exact v1 f hf
      · obtain ⟨z1, z2, z3⟩ := v5 hz
        obtain ⟨y1, y2, y3⟩ := t5 z1
        obtain ⟨x1, x2, x3, x4, x5, x6, x7⟩ := s4 y1
        obtain ⟨j1, j2, j3⟩ := k5 x1
        obtain ⟨i1, i2, i3, i4, i5, i6⟩ := r6 j1
        have e35 : M9 35 l = (l6 : Int) := by rw [v4 35 l (by omega), u_s, t4 32 0 (by omega)]; exact x3
        have e33 : M9 33 l = 4 := by rw [F9 33 l (by omega) (by omega), s5 33 l (by omega) (by omega) (by omega), F5 33 l (by omega) (by omega)]; exact g33
        have e34 : M9 34 l = v := by rw [F9 34 l (by omega) (by omega), s5 34 l (by omega) (by omega) (by omega)]; exact v34
        refine ⟨by rw [z2, y2, x2], by rw [F9 32 0 (by omega) (by omega)]; exact x3, by omega, by omega, by omega, e35, Or.inr ⟨e33, by rw [e34]; exact i3, by rw [e34]; exact i4, 6 - (o + 1), by omega, p_S_c (fun k h1 h2 => ⟨F9 33 k (by omega) (by omega), F9 34 k (by omega) (by omega), F9 35 k (by omega) (by omega)⟩) x7⟩⟩
      · rw [F9 r j x1 (by omega), s5 r j x1 x2 (by omega), F5 r j x1 (by omega), F2 r j x1 x2 x3]
      · obtain ⟨N1, n1, n2, n3⟩ := one N hN
        have n8 : N1 64 8 = (o : Int) := by rw [n2 64 8 (by omega)]; exact hN.2.2.1
        have nop := l_op1 n1 co n8
        have m2 : t_m T e s 0 (-1) (e_up N1 64 8 ((o + 1 : Nat) : Int)) := t_m_v (by decide) n1
        obtain ⟨N2, d1, d2, d3⟩ := skp _ m2
        have e30 : N2 64 30 = (l : Int) := by rw [d3 64 30 (by omega), u_c (by decide), n2 64 30 (by omega)]; exact hN.2.1
        have d4 : t_m T e E 0 (-1) (e_up (e_up N2 64 30 ((l + 1 : Nat) : Int)) (452 + l) 0 4) := t_m_u (by omega) (by omega) (t_m_v (by decide) d2)
        obtain ⟨N4, i1, i2, i3⟩ := r7 _ d4
        have d5 : t_m T e a3 f3 p3 (e_up N4 (452 + l) 1 (if f3 = 0 then v else 0)) := t_m_u (by omega) (by omega) i2
        obtain ⟨b5, N5, j1, j2, j3, j4, j5⟩ := k6 a3 _ r4 (fun _ => rfl) d5
        have G5 : ∀ r j, ¬ (r = 64 ∧ ((4 ≤ j ∧ j ≤ 6) ∨ j = 8 ∨ j = 30)) → r ≠ 452 + l → N5 r j = N r j := fun r j x1 x2 => by
          rw [j5 r j (by omega), u_r x2, i3 r j (by omega), u_r x2]
          by_cases er : r = 64
          · subst er; rw [u_c (by omega), d3 64 j (by omega), u_c (by omega), n2 64 j (by omega)]
          · rw [u_r er, d3 r j (by omega), u_r er, n2 r j (by omega)]
        have g30 : N5 64 30 = ((l + 1 : Nat) : Int) := by rw [j5 64 30 (by omega), u_r (by omega), i3 64 30 (by omega), u_r (by omega), u_s]
        have g8 : N5 64 8 = ((o + 1 : Nat) : Int) := by rw [j5 64 8 (by omega), u_r (by omega), i3 64 8 (by omega), u_r (by omega), u_c (by decide), d3 64 8 (by omega), u_s]
        have gr0 : N5 (452 + l) 0 = 4 := by rw [j5 _ 0 (by omega), u_c (by decide), i3 _ 0 (by omega), u_s]
        have gr1 : N5 (452 + l) 1 = (if f3 = 0 then v else 0) := by rw [j5 _ 1 (by omega), u_s]
        obtain ⟨b6, g, N6, o1, o2, o3, o4, o5, o6⟩ := s6 (452 + l) b5 N5 j2 j4 (fun hz => ⟨j3 hz, g30, g8, by rw [G5 68 0 (by omega) (by omega)]; exact hN.2.2.2.1, by rw [G5 68 2 (by omega) (by omega)]; exact hN.2.2.2.2⟩) G hG
        obtain ⟨b7, N7, h1, h2, h3, h4, h5⟩ := t6 b6 N6 o3 (fun hz => (o5 hz).1) o4
        have d8 : t_m T e b7 f7 p7 (e_up (e_up N7 64 8 (e_w ((N7 64 8) - 1))) (452 + l) 3 (N7 64 30)) := t_m_u (by omega) (by omega) (t_m_v (by decide) h4)
        obtain ⟨b9, N9, x1, x2, x3, x4, x5⟩ := v6 b7 _ h2 h3 d8
        refine ⟨b9, N9, ?_, x2, x4, fun hz => ?_, fun r j y1 y2 => ?_⟩
        · show f_X11_readsStep (mk G) G N = _
          unfold f_X11_readsStep f_X11_readsStep_32 f_X11_readsStep_110
          rw [n3 G hG, f_bs, if_pos w1, if_neg (show ¬ ¬ (4 : Int) = 4 by decide), nop, f_bs, if_pos (show ¬ (1 : Int) = 0 by decide), m2.2.2.1, if_pos rfl, d1 G hG, f_bs, e30, if_pos hl80, if_pos (show (2 : Int) ≤ 4 by decide), if_pos (show ¬ (4 : Int) = 2 by decide), if_neg (show ¬ ¬ (4 : Int) = 4 by decide), Int.toNat_natCast, y_ei (by omega), i1 G (by omega), f_bs, j1 G (by omega), f_bs, o2]
          unfold p_X
          rw [h1 g (by omega), f_bs, u_c (show (30 : Nat) ≠ 8 by decide), x1 g (by omega), f_bs]
        · obtain ⟨z1, z2, z3⟩ := v5 hz
          obtain ⟨y1, y2, y3⟩ := t5 z1
          obtain ⟨q1, q2, q3, q4, q5, q6, q7⟩ := s4 y1
          obtain ⟨q8, q9, qA, qB⟩ := o5 y1
          obtain ⟨qC, qD, qE⟩ := k5 q1
          have l30 : l6 ≤ 30 := by omega
          have e7 : N7 64 30 = (l6 : Int) := by rw [h5 64 30 (by omega)]; exact q9
          refine ⟨x3 hz, ?_, ?_, fun k y1 y2 => ?_⟩
          · rw [x5 64 30 (by omega), u_r (by omega), u_c (by decide)]; exact e7
          · rw [x5 64 8 (by omega), u_r (by omega), u_s, h5 64 8 (by omega), qA, e_ws_ (x := ((o + 1 : Nat) : Int) - 1) (by omega) (by omega)]; omega
          · by_cases ek : k = l
            · subst ek
              rw [x5 _ 0 (by omega), x5 _ 1 (by omega), x5 _ 3 (by omega), u_c (by decide), u_c (by decide), u_s, u_r (by omega), u_r (by omega), h5 _ 0 (by omega), h5 _ 1 (by omega), o6 _ 0 (by omega) (by omega), o6 _ 1 (by omega) (by omega), gr0, gr1, if_pos qC, e7, F9 33 k (by omega) (by omega), F9 34 k (by omega) (by omega), s5 33 k (by omega) (by omega) (by omega), s5 34 k (by omega) (by omega) (by omega), v34, F5 33 k (by omega) (by omega), g33, v4 35 k (by omega), u_s, t4 32 0 (by omega), q3]
              exact ⟨rfl, fun _ => rfl, rfl⟩
            · obtain ⟨p1, p2, p3⟩ := qB k (by omega) y2
              rw [x5 _ 0 (by omega), x5 _ 1 (by omega), x5 _ 3 (by omega), u_r (by omega), u_r (by omega), u_r (by omega), u_r (by omega), u_r (by omega), u_r (by omega), h5 _ 0 (by omega), h5 _ 1 (by omega), h5 _ 3 (by omega), F9 33 k (by omega) (by omega), F9 34 k (by omega) (by omega), F9 35 k (by omega) (by omega)]
              exact ⟨p1, p2, p3⟩
        · rw [x5 r j (by omega), u_r (by omega)]
          by_cases er : r = 64
          · subst er
            rw [u_c (by omega), h5 64 j (by omega), o6 64 j (by omega) (by omega), G5 64 j y1 (by omega)]
          · rw [u_r er, h5 r j (by omega), o6 r j y1 (by omega), G5 r j y1 (by omega)]
    · have ho6 : o = 6 := by omega
      subst ho6
      obtain ⟨x1, x2, x3⟩ := t_C_fl (k := 3) (p := (s : Int)) C2
      have h3 : (3 : Int) ≠ 0 := by decide
      have C9 : t_C T e E 3 (s : Int) (e_up (e_up (e_up M2 2 4 3) 2 5 (s : Int)) 35 l ((e_up (e_up M2 2 4 3) 2 5 (s : Int)) 32 0)) := t_C_u (by decide) (by decide) x2
      refine ⟨E, 0, 3, (s : Int), _, fun f hf => ?_, hE, C9, fun hz => absurd hz h3, fun r j y1 y2 y3 => ?_, fun N hN G hG => ?_⟩
      · show (f_b (f_X4_readStep _ F ((6 : Nat) : Int) M) fun _ NN => f_X7_expectSign f 59 NN) = _
        rw [preA]
        unfold f_X4_readAgain
        rw [if_neg (show ¬ ((6 : Nat) : Int) < 6 by decide), g26, x1, f_bs, f_bs, f_bs]
        exact t_es2 h3 C9
      · by_cases e3 : r = 35
        · subst e3; rw [u_c (by omega), x3 35 j y1, F2 35 j y1 y2 y3]
        · rw [u_r e3, x3 r j y1, F2 r j y1 y2 y3]
      · obtain ⟨N1, n1, n2, n3⟩ := one N hN
        have n8 : N1 64 8 = 6 := by rw [n2 64 8 (by omega)]; exact hN.2.2.1
        obtain ⟨N2, i1, i2, i3⟩ := l_op6 n1 n8
        refine ⟨s, N2, ?_, c1, i2, fun hz => absurd hz h3, (n2.tr i3).p⟩
        show f_X11_readsStep (mk G) G N = _
        unfold f_X11_readsStep
        rw [n3 G hG, f_bs, if_pos w1, if_neg (show ¬ ¬ (4 : Int) = 4 by decide), i1, f_bs, if_neg (show ¬ ¬ (0 : Int) = 0 by decide)]
