/-! THE LAW'S TEXT, 4: a unit as a whole -/
theorem l_N_c {T : Nat → Int} {e o a l : Nat} {fl fp : Int} {M N : e_M} (ho : o < 6) (h : l_N T e (o + 1) a l fl fp M N) : l_N T e o a l fl fp M (e_up N 64 8 (e_w (N 64 8 - 1))) := by
  obtain ⟨b, b1, b2, b3⟩ := h
  refine ⟨b, b1, t_m_v (by decide) b2, fun hz => ?_⟩
  obtain ⟨c1, c2, c3, c4⟩ := b3 hz
  refine ⟨c1, ?_, by rw [u_c (by decide)]; exact c3, fun k hk => ?_⟩
  · rw [u_s, c2, e_ws_ (x := ((o + 1 : Nat) : Int) - 1) (by omega) (by omega)]; omega
  · rw [u_r (by omega), u_r (by omega)]; exact c4 k hk
theorem l_FN_8 {M : e_M} {v : Int} : l_FN M (e_up M 64 8 v) := fun r j g1 g2 => by
  by_cases er : r = 64
  · subst er; rw [u_c (by omega)]
  · rw [u_r er]
theorem l_FN_4 {M : e_M} {v : Int} : l_FN M (e_up M 64 4 v) := fun r j g1 g2 => by
  by_cases er : r = 64
  · subst er; rw [u_c (by omega)]
  · rw [u_r er]
theorem l_unit {T : Nat → Int} {e o : Nat} {rs : Int → e_M → Option (Int × e_M)} {ms : e_M → Option (Int × e_M)} {F : Nat} (hF : 2000 < F) (hT : ∀ j, j < 600 → 0 ≤ T j ∧ T j ≤ 255) (he : e ≤ 150) (ho : o ≤ 6) (hS : o < 6 → l_P T e (o + 1) (fun M => rs ((o + 1 : Nat) : Int) M) ms) : l_P T e o (fun M => f_X2_readUnit (fun x N => f_X2_readName rs F x N) (fun x N => f_X2_readBracket rs F x N) F (o : Int) M) (fun N => f_X11_one ms F N) := by
  intro a l fl fp M h
  by_cases hf : fl = 0
  · subst hf
    obtain ⟨hfp, hl, hc⟩ := h.2.2.2 rfl
    subst hfp
    have hC := h.2.1
    obtain ⟨M1, k1, k2, k3⟩ := t_peek hT (by omega) (e - a) a 0 (-1) M rfl h.1 h.2.1
    have hsp := t_s_p (T := T) (e - a) a rfl
    have hs := hsp.2.1 h.1
    have hs1 := hsp.1
    have hss : t_s T e (t_s T e a) = t_s T e a := t_ss
    have one : ∀ N, l_N T e o a l 0 (-1) M N → ∃ N1, t_m T e (t_s T e a) 0 (-1) N1 ∧ N1 64 8 = (o : Int) ∧ l_R l M N1 ∧ t_fm N N1 ∧ f_X11_one ms F N = f_X11_one_56 ms F (if t_mt 2 T (t_s T e a) (t_we T e (e - t_s T e a) (t_s T e a)) 49 5 = true then 7 else if t_mt 2 T (t_s T e a) (t_we T e (e - t_s T e a) (t_s T e a)) 55 4 = true then 8 else -1) N1 := fun N hN => by
      obtain ⟨b, b1, b2, b3⟩ := hN
      obtain ⟨b4, b5, b6⟩ := b3 rfl
      obtain ⟨N1, c1, c2, c3⟩ := l_one hF hT (by omega) b1 b2
      rw [b4] at c1 c3
      exact ⟨N1, c1, by rw [c2 64 8 (by omega)]; exact b5, l_R_f t_fC.rf c2 b6, c2, c3 ms⟩
    generalize t_s T e a = s at *
    have hd : f_X7_atDigit F M = some (if 48 ≤ t_b T e s ∧ t_b T e s ≤ 57 then 1 else 0, M1) := by
      unfold f_X7_atDigit
      rw [k1 F (by omega), f_bs, t_isd, f_bs, if_pos]
      split
      · exact Or.inr rfl
      · exact Or.inl rfl
    have hc1 := l_c_f k3 hc
    have h24 : ∀ M' : e_M, t_fC M M' → 0 ≤ M' 24 1 := fun M' g => by rw [g 24 1 (by omega)]; exact h.2.2.1
    by_cases cd : 48 ≤ t_b T e s ∧ t_b T e s ≤ 57
    · -- a number
      have hse : s < e := by
        refine Classical.byContradiction fun hg => ?_
        unfold t_b at cd
        rw [if_neg hg] at cd
        omega
      have hb : t_b T e s = T s := by unfold t_b; rw [if_pos hse]
      obtain ⟨v, a2, f2, p2, M2, r1, r2, r3, r4, r5, r6, r7⟩ := x_rn (lo := 0) (hi := 999) hT (by omega) (by decide) hs k2
      have S2 : l_S T e a2 l f2 p2 M2 := ⟨r4, r2, h24 M2 (k3.tr r5), fun hz => ⟨(r6 hz).2.1, by omega, l_c_f (k3.tr r5) hc⟩⟩
      obtain ⟨l3, M3, e1, e2, e3, e4, e5⟩ := l_em (c := v) (w := 0) (v := if f2 = 0 then v else 0) he S2 (fun hz => ⟨by have := (r6 hz).2.2.2.2.1; omega, Or.inl ⟨rfl, by rw [if_pos hz]; exact (r6 hz).2.2.1, by rw [if_pos hz]; exact (r6 hz).2.2.2.1, by rw [if_pos hz]⟩, fun h => absurd h (by decide)⟩)
      refine ⟨a2, l3, f2, p2, M3, ?_, e2, (t_fC.l (k3.tr r5)).tr e3, fun hz => ?_, fun N hN => ?_⟩
      · show f_X2_readUnit _ _ F (o : Int) M = _
        unfold f_X2_readUnit
        rw [t_fd hC, f_bs, if_pos rfl, if_pos rfl, hd, if_pos cd, f_bs, if_neg (show ¬ (1 : Int) = 0 by decide), r1 F (by omega), f_bs, e1, f_bs]
      · obtain ⟨z1, z2⟩ := e4 hz
        have := (r6 hz).2.2.2.2.1
        refine ⟨rfl, by omega, by omega, ?_⟩
        rw [z1, z2, if_pos (by decide), l_25 (k3.tr r5)]
      · obtain ⟨N1, n1, n2, n3, n4, n5⟩ := one N hN
        obtain ⟨w1, w2, w3⟩ := l_nw (T := T) (s := s) (e := e) (by omega)
        obtain ⟨N2, o1, o2, o3⟩ := t_kno hT (by omega) hs hss n1
        rw [w1, if_pos (show (-1 : Int) < 8 by decide)] at o1
        rw [w1, if_neg (show ¬ (0 ≤ (-1 : Int) ∧ (-1 : Int) < 8) by decide)] at o2
        obtain ⟨N3, g1, g2, g3⟩ := r7 N2 o2
        obtain ⟨N4, i1, i2, i3⟩ := e5 o N3 ⟨a2, r4, g2, fun hz => ⟨rfl, by rw [g3 64 8 (by omega), o3 64 8 (by omega)]; exact n2, l_R_f (k3.tr r5) (o3.tr g3) n3⟩⟩
        refine ⟨N4, ?_, i2, (t_fm.l ((n4.tr o3).tr g3)).tr i3⟩
        refine Eq.trans n5 ?_
        rw [if_neg w2, if_neg w3]
        unfold f_X11_one_56
        rw [if_pos rfl, n1.2.1, t_by hT (by omega) hs n1, f_bs, if_pos (show ¬ t_b T e s = 40 by omega), o1 F (by omega), f_bs, if_pos rfl, g1 F (by omega), f_bs, i1, f_bs]
    · obtain ⟨M4, j1, j2, j3⟩ := t_peek hT (by omega) (e - s) s 0 (-1) M1 rfl hs k2
      rw [hss] at j1 j2
      have fr4 := k3.tr j3
      by_cases cp : t_b T e s = 40
      · -- a bracket
        have hse : s < e := by
          refine Classical.byContradiction fun hg => ?_
          unfold t_b at cp
          rw [if_neg hg] at cp
          exact absurd cp (by decide)
        have hb : T s = 40 := by unfold t_b at cp; rw [if_pos hse] at cp; exact cp
        obtain ⟨w1, w2, w3⟩ := l_nw (T := T) (s := s) (e := e) (by omega)
        have pre : f_X2_readUnit (fun x N => f_X2_readName rs F x N) (fun x N => f_X2_readBracket rs F x N) F (o : Int) M = (f_b (f_X2_readBracket rs F (o : Int) M4) fun _ NN12 => (some (0, NN12))) := by
          unfold f_X2_readUnit
          rw [t_fd hC, f_bs, if_pos rfl, if_pos rfl, hd, if_neg cd, f_bs, if_pos rfl, j1 F (by omega), f_bs, if_neg (not_not_intro cp)]
        have pm : ∀ N1, t_m T e s 0 (-1) N1 → f_X11_one_56 ms F (-1) N1 = (f_b (f_X11_opensOne N1) fun rr19 NN20 => (if ¬ rr19 = 0 then (f_b (ms (e_up NN20 64 4 (e_w ((NN20 64 4) + 1)))) fun _ NN22 => (f_b (f_X11_sign F 41 NN22) fun _ NN24 => (some (0, (e_up NN24 64 8 (e_w ((NN24 64 8) - 1))))))) else (some (0, NN20)))) := fun N1 n1 => by
          unfold f_X11_one_56
          rw [if_pos rfl, n1.2.1, t_by hT (by omega) hs n1, f_bs, if_neg (not_not_intro cp)]
        by_cases co : o < 6
        · obtain ⟨M5, x1, x2, x3⟩ := t_es (c := 40) hT (by omega) hs j2
          have g0 : t_gf T e 40 s = 0 := by unfold t_gf; rw [if_pos cp]
          have g1 : t_ga T e 40 s = s + 1 := by unfold t_ga; rw [if_pos cp]
          rw [hss, g0, g1, if_pos rfl] at x2
          have fr5 := fr4.tr x3
          have S5 : l_S T e (s + 1) l 0 (-1) M5 := ⟨by omega, x2, h24 M5 fr5, fun _ => ⟨rfl, by omega, l_c_f fr5 hc⟩⟩
          obtain ⟨a6, l6, f6, p6, M6, u1, u2, u3, u4, u5⟩ := hS co (s + 1) l 0 (-1) M5 S5
          obtain ⟨a7, f7, p7, M7, v1, v2, v3, v4, v5⟩ := l_sg (c := 41) hT he (by decide) u2
          refine ⟨a7, l6, f7, p7, M7, ?_, v2, ((t_fC.l fr5).tr u3).tr (t_fC.l v3), fun hz => ?_, fun N hN => ?_⟩
          · refine Eq.trans pre ?_
            unfold f_X2_readBracket
            rw [if_pos (show (o : Int) < 6 by omega), x1 F (by omega), f_bs, y_ei (by omega)]
            refine Eq.trans (congrArg (fun w => f_b (f_b w _) _) u1) ?_
            rw [f_bs, v1 F (by omega), f_bs, f_bs]
          · obtain ⟨z1, z2⟩ := v4 hz
            obtain ⟨y1, y2, y3, y4⟩ := u4 z1
            refine ⟨rfl, by omega, by omega, ?_⟩
            rw [l_25 v3, y4, l_25 fr5]
          · obtain ⟨N1, n1, n2, n3, n4, n5⟩ := one N hN
            have t2 : t_m T e s 0 (-1) (e_up N1 64 8 ((o + 1 : Nat) : Int)) := t_m_v (by decide) n1
            obtain ⟨t3, t4⟩ := t_m_at (b := s + 1) t2
            have hN3 : l_N T e (o + 1) (s + 1) l 0 (-1) M5 (e_up (e_up N1 64 8 ((o + 1 : Nat) : Int)) 64 4 ((s + 1 : Nat) : Int)) := ⟨s + 1, by omega, t3, fun _ => ⟨rfl, by rw [u_c (by decide), u_s], by rw [u_c (by decide), u_c (by decide)]; exact n3.1, fun k hk => by rw [u_r (by omega), u_r (by omega), u_r (by omega), u_r (by omega), l_25 fr5]; exact n3.2 k hk⟩⟩
            obtain ⟨N4, i1, i2, i3⟩ := u5 _ hN3
            obtain ⟨N5, q1, q2, q3⟩ := v5 (o + 1) N4 i2
            refine ⟨_, ?_, l_N_c co q2, (((((t_fm.l n4).tr l_FN_8).tr l_FN_4).tr i3).tr (t_fm.l q3)).tr l_FN_8⟩
            refine Eq.trans n5 ?_
            rw [if_neg w2, if_neg w3, pm N1 n1, l_op1 n1 co n2, f_bs, if_pos (show ¬ (1 : Int) = 0 by decide), t2.2.1, y_ei (by omega), i1, f_bs, q1 F (by omega), f_bs]
        · have ho6 : o = 6 := by omega
          subst ho6
          obtain ⟨x1, x2, x3⟩ := t_C_fl (k := 3) (p := (s : Int)) j2
          refine ⟨s, l, 3, (s : Int), _, ?_, ⟨hs, x2, h24 _ (fr4.tr x3), fun hz => absurd hz (by decide)⟩, t_fC.l (fr4.tr x3), fun hz => absurd hz (by decide), fun N hN => ?_⟩
          · refine Eq.trans pre ?_
            unfold f_X2_readBracket f_X7_signPlace
            rw [if_neg (show ¬ ((6 : Nat) : Int) < 6 by decide), f_bs, j2.2.1, x1, f_bs, f_bs]
          · obtain ⟨N1, n1, n2, n3, n4, n5⟩ := one N hN
            obtain ⟨N2, i1, i2, i3⟩ := l_op6 n1 n2
            refine ⟨N2, ?_, ⟨s, hs, i2, fun hz => absurd hz (by decide)⟩, t_fm.l (n4.tr i3)⟩
            refine Eq.trans n5 ?_
            rw [if_neg w2, if_neg w3, pm N1 n1, i1, f_bs, if_neg (show ¬ ¬ (0 : Int) = 0 by decide)]
      · -- a name
        obtain ⟨M5, q1, q2, q3, q4⟩ := t_rw (j := 2) hT (by omega) (t_i2 T) (fun s E M h3 hs hE f hf => t_iw2 hT h3 hE hs f hf) hs j2
        rw [hss] at q1 q2 q3
        have hE := t_we_r (T := T) (n := e) (e - s) s rfl hs
        have fr5 := fr4.tr q4
        have pre : f_X2_readUnit (fun x N => f_X2_readName rs F x N) (fun x N => f_X2_readBracket rs F x N) F (o : Int) M = (f_b (f_X2_readName rs F (o : Int) M4) fun _ NN12 => (some (0, NN12))) := by
          unfold f_X2_readUnit
          rw [t_fd hC, f_bs, if_pos rfl, if_pos rfl, hd, if_neg cd, f_bs, if_pos rfl, j1 F (by omega), f_bs, if_pos cp]
        have rw2 : f_X7_readWord_2 F M4 = some (t_i2 T s (t_we T e (e - s) s), M5) := q1 F (by omega)
        have pm : ∀ N1, t_m T e s 0 (-1) N1 → f_X11_one_56 ms F (-1) N1 = (f_b (f_X11_knownHere F N1) fun rr25 NN26 => (if rr25 = (-1) then (f_b (f_X11_number F 0 999 NN26) fun rr29 NN30 => (f_b (f_X11_notes 0 rr29 NN30) fun _ NN32 => (some (0, NN32)))) else (f_b (f_X11_notes 1 rr25 NN26) fun _ NN28 => (some (0, NN28))))) := fun N1 n1 => by
          unfold f_X11_one_56
          rw [if_pos rfl, n1.2.1, t_by hT (by omega) hs n1, f_bs, if_pos cp]
        by_cases c89 : t_mt 2 T s (t_we T e (e - s) s) 49 5 = true ∨ t_mt 2 T s (t_we T e (e - s) s) 55 4 = true
        · -- least, most
          obtain ⟨W, hW, hi2, hmw⟩ : ∃ W : Int, (W = 7 ∨ W = 8) ∧ t_i2 T s (t_we T e (e - s) s) = W + 1 ∧ (if t_mt 2 T s (t_we T e (e - s) s) 49 5 = true then 7 else if t_mt 2 T s (t_we T e (e - s) s) 55 4 = true then 8 else -1) = W := by
            by_cases c8 : t_mt 2 T s (t_we T e (e - s) s) 49 5 = true
            · exact ⟨7, Or.inl rfl, by rw [l_i8 c8]; rfl, if_pos c8⟩
            · rcases c89 with c | c
              · exact absurd c c8
              · exact ⟨8, Or.inr rfl, by rw [l_i9 c]; rfl, by rw [if_neg c8, if_pos c]⟩
          rw [hi2] at q2 rw2
          rw [if_neg (show ¬ W + 1 = -1 by omega), if_neg (show ¬ W + 1 = -1 by omega), if_neg (show ¬ W + 1 = -1 by omega)] at q2
          have h5 : s + 4 ≤ t_we T e (e - s) s := by
            rcases c89 with c | c
            · have := (of_decide_eq_true c).1; omega
            · have := (of_decide_eq_true c).1; omega
          generalize hEe : t_we T e (e - s) s = E at *
          by_cases co : o < 6
          · have S5 : l_S T e E l 0 (-1) M5 := ⟨by omega, q2, h24 M5 fr5, fun _ => ⟨rfl, by omega, l_c_f fr5 hc⟩⟩
            obtain ⟨a6, f6, p6, M6, u1, u2, u3, u4, u5⟩ := l_sg (c := 91) hT he (by decide) S5
            obtain ⟨a7, l7, f7, p7, M7, v1, v2, v3, v4, v5⟩ := hS co a6 l f6 p6 M6 u2
            obtain ⟨a8, f8, p8, M8, w1, w2, w3, w4, w5⟩ := l_sg (c := 44) hT he (by decide) v2
            obtain ⟨a9, l9, f9, p9, M9, x1, x2, x3, x4, x5⟩ := hS co a8 l7 f8 p8 M8 w2
            obtain ⟨aA, fA, pA, MA, y1, y2, y3, y4, y5⟩ := l_sg (c := 93) hT he (by decide) x2
            have chain : fA = 0 → f6 = 0 ∧ a6 < a7 ∧ a7 < a9 ∧ a9 < aA ∧ E < a6 ∧ l9 + 1 + s ≤ l + aA ∧ x_h (MA 25) l9 = x_h (M 25) l + 2 := fun hz => by
              obtain ⟨z1, z2⟩ := y4 hz
              obtain ⟨z3, z4, z5, z6⟩ := x4 z1
              obtain ⟨z7, z8⟩ := w4 z3
              obtain ⟨z9, zA, zB, zC⟩ := v4 z7
              obtain ⟨zD, zE⟩ := u4 z9
              refine ⟨z9, by omega, by omega, by omega, by omega, by omega, ?_⟩
              rw [l_25 y3, z6, l_25 w3, zC, l_25 u3, l_25 fr5]
            obtain ⟨lB, MB, t1, t2, t3, t4, t5⟩ := l_em (c := 1998 + W) (w := W) (v := 0) he y2 (fun hz => by
              have := chain hz
              exact ⟨by omega, Or.inr (Or.inr ⟨by omega, by omega, rfl⟩), fun _ => by omega⟩)
            refine ⟨aA, lB, fA, pA, MB, ?_, t2, ((((((t_fC.l fr5).tr (t_fC.l u3)).tr v3).tr (t_fC.l w3)).tr x3).tr (t_fC.l y3)).tr t3, fun hz => ?_, fun N hN => ?_⟩
            · refine Eq.trans pre ?_
              unfold f_X2_readName
              rw [rw2, f_bs, if_pos (show ¬ W + 1 = -1 by omega), if_pos (show 8 ≤ W + 1 by omega), if_pos (show (o : Int) < 6 by omega), u1 F (by omega), f_bs, y_ei (by omega)]
              refine Eq.trans (congrArg (fun w => f_b (f_b w _) _) v1) ?_
              rw [f_bs, w1 F (by omega), f_bs]
              refine Eq.trans (congrArg (fun w => f_b (f_b w _) _) x1) ?_
              rw [f_bs, y1 F (by omega), f_bs]
              rcases hW with rfl | rfl
              · rw [if_neg (show ¬ ¬ (7 : Int) + 1 = 8 by decide), show (2005 : Int) = 1998 + 7 from rfl, t1, f_bs, f_bs]
              · rw [if_pos (show ¬ (8 : Int) + 1 = 8 by decide), show (2006 : Int) = 1998 + 8 from rfl, t1, f_bs, f_bs]
            · obtain ⟨z1, z2⟩ := t4 hz
              have := chain hz
              refine ⟨rfl, by omega, by omega, ?_⟩
              rw [z1, z2, if_neg (by omega)]; omega
            · obtain ⟨N1, n1, n2, n3, n4, n5⟩ := one N hN
              have m2 : t_m T e s 0 (-1) (e_up N1 64 8 ((o + 1 : Nat) : Int)) := t_m_v (by decide) n1
              obtain ⟨N3, b1, b2, b3⟩ := t_skw hT (by omega) (e - s) s _ rfl hs m2
              rw [hEe] at b2
              have hN3 : l_N T e (o + 1) E l 0 (-1) M5 N3 := ⟨E, by omega, b2, fun _ => ⟨rfl, by rw [b3 64 8 (by omega), u_s], by rw [b3 64 22 (by omega), u_c (by decide)]; exact n3.1, fun k hk => by rw [b3 _ 0 (by omega), b3 _ 1 (by omega), u_r (by omega), u_r (by omega), l_25 fr5]; exact n3.2 k hk⟩⟩
              obtain ⟨N6, c1, c2, c3⟩ := u5 (o + 1) N3 hN3
              obtain ⟨N7, d1, d2, d3⟩ := v5 N6 c2
              obtain ⟨N8, e1, e2, e3⟩ := w5 (o + 1) N7 d2
              obtain ⟨N9, f1, f2, f3⟩ := x5 N8 e2
              obtain ⟨NA, g1, g2, g3⟩ := y5 (o + 1) N9 f2
              obtain ⟨NB, h1, h2, h3⟩ := t5 (o + 1) NA g2
              refine ⟨_, ?_, l_N_c co h2, (((((((((t_fm.l n4).tr l_FN_8).tr (t_fm.l b3)).tr (t_fm.l c3)).tr d3).tr (t_fm.l e3)).tr f3).tr (t_fm.l g3)).tr h3).tr l_FN_8⟩
              refine Eq.trans n5 ?_
              rw [hmw]
              unfold f_X11_one_56
              rw [if_neg (show ¬ W = -1 by omega), l_op1 n1 co n2, f_bs, if_pos (show ¬ (1 : Int) = 0 by decide), b1 F (by omega), f_bs, c1 F (by omega), f_bs, d1, f_bs, e1 F (by omega), f_bs, f1, f_bs, g1 F (by omega), f_bs, h1, f_bs]
          · have ho6 : o = 6 := by omega
            subst ho6
            obtain ⟨x1, x2, x3⟩ := t_C_fl (k := 3) (p := (s : Int)) q2
            refine ⟨E, l, 3, (s : Int), _, ?_, ⟨by omega, x2, h24 _ (fr5.tr x3), fun hz => absurd hz (by decide)⟩, t_fC.l (fr5.tr x3), fun hz => absurd hz (by decide), fun N hN => ?_⟩
            · refine Eq.trans pre ?_
              unfold f_X2_readName
              rw [rw2, f_bs, if_pos (show ¬ W + 1 = -1 by omega), if_pos (show 8 ≤ W + 1 by omega), if_neg (show ¬ ((6 : Nat) : Int) < 6 by decide), q3, x1, f_bs, f_bs]
            · obtain ⟨N1, n1, n2, n3, n4, n5⟩ := one N hN
              obtain ⟨N2, i1, i2, i3⟩ := l_op6 n1 n2
              refine ⟨N2, ?_, ⟨s, hs, i2, fun hz => absurd hz (by decide)⟩, t_fm.l (n4.tr i3)⟩
              refine Eq.trans n5 ?_
              rw [hmw]
              unfold f_X11_one_56
              rw [if_neg (show ¬ W = -1 by omega), i1, f_bs, if_neg (show ¬ ¬ (0 : Int) = 0 by decide)]
        · have c8 : ¬ t_mt 2 T s (t_we T e (e - s) s) 49 5 = true := fun x => c89 (Or.inl x)
          have c9 : ¬ t_mt 2 T s (t_we T e (e - s) s) 55 4 = true := fun x => c89 (Or.inr x)
          have hr := l_i0 c8 c9
          by_cases w1 : t_i2 T s (t_we T e (e - s) s) = -1
          · rw [if_pos w1, if_pos w1, if_pos w1] at q2
            refine ⟨s, l, 1, (s : Int), M5, ?_, ⟨hs, q2, h24 _ fr5, fun hz => absurd hz (by decide)⟩, t_fC.l fr5, fun hz => absurd hz (by decide), fun N hN => ?_⟩
            · refine Eq.trans pre ?_
              unfold f_X2_readName
              rw [rw2, f_bs, w1, if_neg (show ¬ ¬ (-1 : Int) = -1 by decide), f_bs]
            · obtain ⟨N1, n1, n2, n3, n4, n5⟩ := one N hN
              obtain ⟨N2, o1, o2, o3⟩ := t_kno hT (by omega) hs hss n1
              rw [w1, if_pos (show (-1 : Int) < 8 by decide)] at o1
              rw [w1, if_neg (show ¬ (0 ≤ (-1 : Int) ∧ (-1 : Int) < 8) by decide)] at o2
              obtain ⟨N3, g1, g2, g3⟩ := t_mn (lo := 0) (hi := 999) hT (by omega) (by decide) hs o2
              have hnd : ¬ (s < e ∧ 48 ≤ T s ∧ T s ≤ 57) := fun x => cd (by unfold t_b; rw [if_pos x.1]; exact x.2)
              have nf : t_nf T e 0 999 s = 1 := by unfold t_nf; rw [if_neg hnd]
              have na : t_na T e s = s := by unfold t_na; rw [if_neg hnd]
              rw [hss, nf, na, if_neg (show ¬ (1 : Int) = 0 by decide)] at g2
              rw [hss, nf, if_neg (show ¬ (1 : Int) = 0 by decide)] at g1
              refine ⟨N3, ?_, ⟨s, hs, g2, fun hz => absurd hz (by decide)⟩, t_fm.l ((n4.tr o3).tr g3)⟩
              refine Eq.trans n5 ?_
              rw [if_neg c8, if_neg c9, pm N1 n1, o1 F (by omega), f_bs, if_pos rfl, g1 F (by omega), f_bs]
              unfold f_X11_notes
              rw [g2.2.2.1, if_neg (show ¬ (1 : Int) = 0 by decide), f_bs]
          · rw [if_neg w1, if_neg w1, if_neg w1] at q2
            have hEs : s + 1 ≤ t_we T e (e - s) s := by
              refine Classical.byContradiction fun hg => w1 ?_
              refine (l_nw (T := T) (s := s) (e := e) (fun x => hg ?_)).1
              have hj : e - s = (e - s - 1) + 1 := by omega
              rw [hj, t_we_1 x]
              exact (t_we_r (T := T) (n := e) (e - s - 1) (s + 1) (by omega) (by omega)).1
            have S5 : l_S T e (t_we T e (e - s) s) l 0 (-1) M5 := ⟨hE.2, q2, h24 M5 fr5, fun _ => ⟨rfl, by omega, l_c_f fr5 hc⟩⟩
            obtain ⟨l6, M6, t1, t2, t3, t4, t5⟩ := l_em (c := 1000 + t_i2 T s (t_we T e (e - s) s)) (w := 1) (v := t_i2 T s (t_we T e (e - s) s)) he S5 (fun _ => ⟨by omega, Or.inr (Or.inl ⟨rfl, by omega, by omega, rfl⟩), fun h => absurd h (by decide)⟩)
            refine ⟨_, l6, 0, -1, M6, ?_, t2, (t_fC.l fr5).tr t3, fun hz => ?_, fun N hN => ?_⟩
            · refine Eq.trans pre ?_
              unfold f_X2_readName
              rw [rw2, f_bs, if_pos w1, if_neg (show ¬ 8 ≤ t_i2 T s (t_we T e (e - s) s) by omega), e_ws_ (x := 1000 + t_i2 T s (t_we T e (e - s) s)) (by omega) (by omega), t1, f_bs, f_bs]
            · obtain ⟨z1, z2⟩ := t4 hz
              refine ⟨rfl, by omega, by omega, ?_⟩
              rw [z1, z2, if_pos (by decide), l_25 fr5]
            · obtain ⟨N1, n1, n2, n3, n4, n5⟩ := one N hN
              obtain ⟨N2, o1, o2, o3⟩ := t_kno hT (by omega) hs hss n1
              rw [if_pos hr.2] at o1
              rw [if_pos (show 0 ≤ t_i2 T s (t_we T e (e - s) s) ∧ t_i2 T s (t_we T e (e - s) s) < 8 by omega)] at o2
              obtain ⟨N3, i1, i2, i3⟩ := t5 o N2 ⟨_, hE.2, o2, fun _ => ⟨rfl, by rw [o3 64 8 (by omega)]; exact n2, l_R_f fr5 o3 n3⟩⟩
              refine ⟨N3, ?_, i2, (t_fm.l (n4.tr o3)).tr i3⟩
              refine Eq.trans n5 ?_
              rw [if_neg c8, if_neg c9, pm N1 n1, o1 F (by omega), f_bs, if_neg w1, i1, f_bs]
  · refine ⟨a, l, fl, fp, M, ?_, h, l_FC.rf, fun hz => absurd hz hf, fun N hN => ⟨N, ?_, hN, l_FN.rf⟩⟩
    · show f_X2_readUnit _ _ F (o : Int) M = _
      unfold f_X2_readUnit
      rw [t_fd h.2.1, f_bs, if_neg hf, if_neg (show ¬ (1 : Int) = 0 by decide)]
    · obtain ⟨b, _, b2, _⟩ := hN
      show f_X11_one ms F N = _
      unfold f_X11_one
      rw [b2.2.2.1, if_neg hf]
