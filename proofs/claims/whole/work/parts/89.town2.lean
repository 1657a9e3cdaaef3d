/-! THE TOWN'S TEXT, 2: skills and tasks -/
theorem x_ski {T : Nat → Int} {e n m t a : Nat} {M : e_M} (hT : ∀ j, j < 600 → 0 ≤ T j ∧ T j ≤ 255) (he : e ≤ 600) (ha : a ≤ e) (hC : t_C T e a 0 (-1) M) (hB : x_B n m t M) : x_J T e n m t a 2 3 0 M := by
  unfold x_J
  obtain ⟨b1, b2, b3, b4, b5, b6, b7, b8, b9⟩ := hB
  obtain ⟨v, a1, f1, p1, M1, r1, C1, _, l1, F1, z1, m1⟩ := x_rn (lo := 0) (hi := (n : Int) - 1) hT he (by omega) ha hC
  obtain ⟨w, a2, f2, p2, M2, r2, C2, _, l2, F2, z2, m2⟩ := x_rn (lo := 0) (hi := (m : Int) - 1) hT he (by omega) l1 C1
  have FF := F1.tr F2
  have n1 : M1 12 1 = (m : Int) := by rw [F1 12 1 (by omega)]; exact b5
  by_cases hf : f2 = 0
  · subst hf
    obtain ⟨y1, y2, y3, y4, _⟩ := z2 rfl
    subst y1
    obtain ⟨_, x2, x3, x4, _⟩ := z1 rfl
    subst y2; subst x2
    obtain ⟨q, hq, rfl⟩ := q_nat (n := n) (p := v) (by omega)
    obtain ⟨d, hd, rfl⟩ := q_nat (n := m) (p := w) (by omega)
    obtain ⟨s, hs, hs2⟩ := (b7 q hq).2.2.2.2
    have h2m : (2 : Nat) ^ m ≤ 2 ^ 6 := Nat.pow_le_pow_right (by omega) b2
    have h2d : (2 : Nat) ^ d < 2 ^ m := Nat.pow_lt_pow_right (by omega) hd
    have hor : s ||| 2 ^ d < 2 ^ m := Nat.or_lt_two_pow hs2 h2d
    have hlt : (0 ≤ (q : Int) ∧ (q : Int) < 6) := by omega
    have C3 : t_C T e a2 0 (-1) (e_up M2 15 q ((s ||| 2 ^ d : Nat) : Int)) := t_C_u (by decide) (by decide) C2
    obtain ⟨a3, f3, p3, M4, r3, C4, _, l3, F3, z3, m3⟩ := x_es (c := 59) hT he (by decide) l2 C3
    have e15 : ∀ j, M4 15 j = if j = q then ((s ||| 2 ^ d : Nat) : Int) else M 15 j := fun j => by rw [F3 15 j (by omega), u_i, FF 15 j (by omega)]
    have eo : ∀ r j, ¬ (r = 2 ∧ 3 ≤ j ∧ j ≤ 6) → r ≠ 15 → M4 r j = M r j := fun r j h1 h2 => by rw [F3 r j h1, u_r h2, FF r j h1]
    refine ⟨n, m, t, a3, f3, p3, M4, fun f hf => ?_, C4, l3, fun hz => ⟨(z3 hz).2.1, b1, b2, b3, by rw [eo 12 0 (by omega) (by omega)]; exact b4, by rw [eo 12 1 (by omega) (by omega)]; exact b5, by rw [eo 12 2 (by omega) (by omega)]; exact b6, fun p hp => ?_, fun d hd => ?_, fun k hk => ?_⟩, fun r j h1 h2 => eo r j h1 (by omega), fun N hN hR => ?_⟩
    · unfold f_X8_readClause f_X8_readSkill
      rw [if_neg (show ¬ (2 : Int) = 0 by decide), if_neg (show ¬ (2 : Int) = 1 by decide), if_pos rfl, b4, e_ws_ (x := (n : Int) - 1) (by omega) (by omega), r1 f (by omega), f_bs, n1, e_ws_ (x := (m : Int) - 1) (by omega) (by omega), r2 f (by omega), f_bs, t_fd C2, f_bs, if_pos rfl, if_neg (show ¬ ¬ (0 : Int) = 0 by decide), if_pos hlt, if_pos hlt, Int.toNat_natCast, FF 15 q (by omega), hs, q_sh (by omega), b_or (by omega) (by omega), f_bs, f_bs]
      exact r3 f (by omega)
    · rw [eo 13 p (by omega) (by omega), eo 14 p (by omega) (by omega), e15]
      refine ⟨(b7 p hp).1, (b7 p hp).2.1, (b7 p hp).2.2.1, (b7 p hp).2.2.2.1, ?_⟩
      by_cases c : p = q
      · rw [if_pos c]; exact ⟨_, rfl, hor⟩
      · rw [if_neg c]; exact (b7 p hp).2.2.2.2
    · rw [eo 16 d (by omega) (by omega)]; exact b8 d hd
    · rw [eo 17 k (by omega) (by omega), eo 18 k (by omega) (by omega), eo 19 k (by omega) (by omega)]; exact b9 k hk
    · obtain ⟨c1, c2, c3, c4, c5, c6, c7⟩ := hR
      obtain ⟨N1, s1, t1, g1⟩ := m1 N hN
      obtain ⟨N2, s2, t2, g2⟩ := m2 N1 t1
      obtain ⟨N3, s3, t3, g3⟩ := m3 (e_up N2 71 q ((s ||| 2 ^ d : Nat) : Int)) (t_m_u (by omega) (by omega) t2)
      rw [if_pos rfl] at s1 s2
      have hk : N2 71 q = (s : Int) := by rw [g2 71 q (by omega), g1 71 q (by omega), (c4 q hq).2.2, hs]
      have GG : ∀ r j, ¬ (r = 64 ∧ 4 ≤ j ∧ j ≤ 6) → r ≠ 71 → N3 r j = N r j := fun r j h1 h2 => by rw [g3 r j h1, u_r h2, g2 r j h1, g1 r j h1]
      have k0 : ∀ j, N3 71 j = if j = q then ((s ||| 2 ^ d : Nat) : Int) else N 71 j := fun j => by rw [g3 _ j (by omega), u_i, g2 _ j (by omega), g1 _ j (by omega)]
      refine ⟨N3, fun f hf => ?_, t3, fun hz => ⟨?_, ?_, ?_, fun p hp => ?_, fun p h1 h2 => ?_, fun d hd => ?_, fun k hk => ?_⟩, fun r j h1 h2 => GG r j (by omega) (by omega), GG 64 7 (by omega) (by omega)⟩
      · unfold f_X11_clause_95 f_X11_clause_280
        rw [if_neg (show ¬ (3 : Int) = 0 by decide), if_neg (show ¬ (3 : Int) = 1 by decide), if_neg (show ¬ (3 : Int) = 2 by decide), c1, e_ws_ (x := (n : Int) - 1) (by omega) (by omega), s1 f (by omega), f_bs, g1 67 1 (by omega), c2, e_ws_ (x := (m : Int) - 1) (by omega) (by omega), s2 f (by omega), f_bs, t2.2.2.1, if_neg (show ¬ ¬ (0 : Int) = 0 by decide), if_pos hlt, if_pos hlt, Int.toNat_natCast, hk, q_sh (by omega), b_or (by omega) (by omega), s3 f (by omega), f_bs, if_pos (show (3 : Int) ≤ 3 by decide)]
      · rw [GG 67 0 (by omega) (by omega)]; exact c1
      · rw [GG 67 1 (by omega) (by omega)]; exact c2
      · rw [GG 67 2 (by omega) (by omega)]; exact c3
      · rw [GG _ 0 (by omega) (by omega), GG _ 1 (by omega) (by omega), k0, e15, eo 13 p (by omega) (by omega), eo 14 p (by omega) (by omega)]
        refine ⟨(c4 p hp).1, (c4 p hp).2.1, ?_⟩
        by_cases c : p = q
        · rw [if_pos c, if_pos c]
        · rw [if_neg c, if_neg c]; exact (c4 p hp).2.2
      · rw [k0, if_neg (by omega)]; exact c5 p h1 h2
      · rw [GG 69 d (by omega) (by omega), eo 16 d (by omega) (by omega)]; exact c6 d hd
      · rw [GG _ 0 (by omega) (by omega), GG _ 1 (by omega) (by omega), GG _ 2 (by omega) (by omega), eo 17 k (by omega) (by omega), eo 18 k (by omega) (by omega), eo 19 k (by omega) (by omega)]; exact c7 k hk
  · refine ⟨0, 0, 0, a2, f2, p2, M2, fun f hf2 => ?_, C2, l2, fun hz => absurd hz hf, fun r j h1 _ => FF r j h1, fun N hN hR => ?_⟩
    · unfold f_X8_readClause f_X8_readSkill
      rw [if_neg (show ¬ (2 : Int) = 0 by decide), if_neg (show ¬ (2 : Int) = 1 by decide), if_pos rfl, b4, e_ws_ (x := (n : Int) - 1) (by omega) (by omega), r1 f (by omega), f_bs, n1, e_ws_ (x := (m : Int) - 1) (by omega) (by omega), r2 f (by omega), f_bs, t_fd C2, f_bs, if_neg hf, if_pos (show ¬ (1 : Int) = 0 by decide), f_bs, f_bs]
      exact t_es2 hf C2
    · obtain ⟨c1, c2, c3, c4, c5, c6, c7⟩ := hR
      obtain ⟨N1, s1, t1, g1⟩ := m1 N hN
      obtain ⟨N2, s2, t2, g2⟩ := m2 N1 t1
      refine ⟨N2, fun f hf2 => ?_, t2, fun hz => absurd hz hf, fun r j h1 h2 => by rw [g2 r j (by omega), g1 r j (by omega)], by rw [g2 64 7 (by omega), g1 64 7 (by omega)]⟩
      unfold f_X11_clause_95 f_X11_clause_280
      rw [if_neg (show ¬ (3 : Int) = 0 by decide), if_neg (show ¬ (3 : Int) = 1 by decide), if_neg (show ¬ (3 : Int) = 2 by decide), c1, e_ws_ (x := (n : Int) - 1) (by omega) (by omega), s1 f (by omega), f_bs, g1 67 1 (by omega), c2, e_ws_ (x := (m : Int) - 1) (by omega) (by omega), s2 f (by omega), f_bs, t2.2.2.1, if_pos hf, t_ms2 hf t2, f_bs, if_pos (show (3 : Int) ≤ 3 by decide)]
theorem x_tas {T : Nat → Int} {e n m t a : Nat} {M : e_M} (hT : ∀ j, j < 600 → 0 ≤ T j ∧ T j ≤ 255) (he : e ≤ 600) (ha : a ≤ e) (hC : t_C T e a 0 (-1) M) (hB : x_B n m t M) (hn : t < 12) : x_J T e n m t a 3 2 (t : Int) M := by
  unfold x_J
  obtain ⟨b1, b2, b3, b4, b5, b6, b7, b8, b9⟩ := hB
  obtain ⟨v, a0, f0, p0, M0, r0, C0, _, l0, F0, z0, m0⟩ := x_rn (lo := 0) (hi := (n : Int) - 1) hT he (by omega) ha hC
  obtain ⟨u, a1, f1, p1, M1, r1, C1, _, l1, F1, z1, m1⟩ := x_rn (lo := 0) (hi := 60) hT he (by decide) l0 C0
  obtain ⟨w, a2, f2, p2, M2, r2, C2, _, l2, F2, z2, m2⟩ := x_rn (lo := 0) (hi := 60) hT he (by decide) l1 C1
  have FF := (F0.tr F1).tr F2
  have n2 : M2 12 2 = (t : Int) := by rw [FF 12 2 (by omega)]; exact b6
  have hlt : (0 ≤ (t : Int) ∧ (t : Int) < 12) := by omega
  by_cases hf : f2 = 0
  · subst hf
    obtain ⟨y1, y2, y3, y4, _⟩ := z2 rfl
    subst y1
    obtain ⟨x1, x2, x3, x4, _⟩ := z1 rfl
    subst x1
    obtain ⟨_, w2, w3, w4, _⟩ := z0 rfl
    subst y2; subst x2; subst w2
    obtain ⟨q, hq, rfl⟩ := q_nat (n := n) (p := v) (by omega)
    have C3 : t_C T e a2 0 (-1) (e_up (e_up (e_up (e_up M2 17 t (q : Int)) 18 t u) 19 t w) 12 2 ((t + 1 : Nat) : Int)) := t_C_u (by decide) (by decide) (t_C_u (by decide) (by decide) (t_C_u (by decide) (by decide) (t_C_u (by decide) (by decide) C2)))
    obtain ⟨a3, f3, p3, M4, r3, C4, _, l3, F3, z3, m3⟩ := x_es (c := 59) hT he (by decide) l2 C3
    have e12 : M4 12 2 = ((t + 1 : Nat) : Int) := by rw [F3 12 2 (by omega), u_s]
    have e12' : ∀ j, j ≠ 2 → M4 12 j = M 12 j := fun j hj => by rw [F3 12 j (by omega), u_c hj, u_r (by decide), u_r (by decide), u_r (by decide), FF 12 j (by omega)]
    have e17 : ∀ k, M4 17 k = if k = t then (q : Int) else M 17 k := fun k => by rw [F3 17 k (by omega), u_r (by decide), u_r (by decide), u_r (by decide), u_i, FF 17 k (by omega)]
    have e18 : ∀ k, M4 18 k = if k = t then u else M 18 k := fun k => by rw [F3 18 k (by omega), u_r (by decide), u_r (by decide), u_i, u_r (by decide), FF 18 k (by omega)]
    have e19 : ∀ k, M4 19 k = if k = t then w else M 19 k := fun k => by rw [F3 19 k (by omega), u_r (by decide), u_i, u_r (by decide), u_r (by decide), FF 19 k (by omega)]
    have eo : ∀ r j, ¬ (r = 2 ∧ 3 ≤ j ∧ j ≤ 6) → r ≠ 12 → ¬ (17 ≤ r ∧ r ≤ 19) → M4 r j = M r j := fun r j h1 h2 h3 => by rw [F3 r j h1, u_r (by omega), u_r (by omega), u_r (by omega), u_r (by omega), FF r j h1]
    refine ⟨n, m, t + 1, a3, f3, p3, M4, fun f hf => ?_, C4, l3, fun hz => ⟨(z3 hz).2.1, b1, b2, by omega, by rw [e12' 0 (by decide)]; exact b4, by rw [e12' 1 (by decide)]; exact b5, e12, fun p hp => ?_, fun d hd => ?_, fun k hk => ?_⟩, fun r j h1 h2 => eo r j h1 (by omega) (by omega), fun N hN hR => ?_⟩
    · unfold f_X8_readClause f_X8_readTask f_X8_readTask_18
      rw [if_neg (show ¬ (3 : Int) = 0 by decide), if_neg (show ¬ (3 : Int) = 1 by decide), if_neg (show ¬ (3 : Int) = 2 by decide), if_pos rfl, b6, if_pos hlt.2, b4, e_ws_ (x := (n : Int) - 1) (by omega) (by omega), r0 f (by omega), f_bs, r1 f (by omega), f_bs, r2 f (by omega), f_bs, t_fd C2, f_bs, if_pos rfl, if_neg (show ¬ ¬ (0 : Int) = 0 by decide)]
      simp only [n2, u_r (show (12 : Nat) ≠ 17 by decide), u_r (show (12 : Nat) ≠ 18 by decide), u_r (show (12 : Nat) ≠ 19 by decide), Int.toNat_natCast, eq_true hlt, ↓reduceIte, f_bs, y_ei (show t < 1000000 by omega)]
      exact r3 f (by omega)
    · rw [eo 13 p (by omega) (by omega) (by omega), eo 14 p (by omega) (by omega) (by omega), eo 15 p (by omega) (by omega) (by omega)]; exact b7 p hp
    · rw [eo 16 d (by omega) (by omega) (by omega)]; exact b8 d hd
    · rw [e17, e18, e19]
      by_cases c : k = t
      · rw [if_pos c, if_pos c, if_pos c]
        exact ⟨q, rfl, hq, x3, x4, y3, y4⟩
      · rw [if_neg c, if_neg c, if_neg c]
        exact b9 k (by omega)
    · obtain ⟨c1, c2, c3, c4, c5, c6, c7⟩ := hR
      obtain ⟨N0, s0, t0, g0⟩ := m0 N hN
      obtain ⟨N1, s1, t1, g1⟩ := m1 (e_up N0 (88 + t) 0 (q : Int)) (t_m_u (by omega) (by omega) t0)
      obtain ⟨N2, s2, t2, g2⟩ := m2 (e_up N1 (88 + t) 1 u) (t_m_u (by omega) (by omega) t1)
      obtain ⟨N3, s3, t3, g3⟩ := m3 (e_up N2 (88 + t) 2 w) (t_m_u (by omega) (by omega) t2)
      rw [if_pos rfl] at s0 s1 s2
      have hk := x_280 (κ := 2) (w0 := (t : Int)) (by decide) s3 t3.2.2.1
      have GG : ∀ r j, ¬ (r = 64 ∧ 4 ≤ j ∧ j ≤ 6) → r ≠ 88 + t → N3 r j = N r j := fun r j h1 h2 => by rw [g3 r j h1, u_r h2, g2 r j h1, u_r h2, g1 r j h1, u_r h2, g0 r j h1]
      have k0 : N3 (88 + t) 0 = (q : Int) := by rw [g3 _ 0 (by omega), u_c (by decide), g2 _ 0 (by omega), u_c (by decide), g1 _ 0 (by omega), u_s]
      have k1 : N3 (88 + t) 1 = u := by rw [g3 _ 1 (by omega), u_c (by decide), g2 _ 1 (by omega), u_s]
      have k2 : N3 (88 + t) 2 = w := by rw [g3 _ 2 (by omega), u_s]
      refine ⟨_, fun f hf => Eq.trans ?_ (hk f (by omega)), t_m_u (by decide) (by decide) t3, fun hz => ⟨?_, ?_, ?_, fun p hp => ?_, fun p h1 h2 => ?_, fun d hd => ?_, fun k hk => ?_⟩, fun r j h1 h2 => ?_, ?_⟩
      · unfold f_X11_clause_95
        rw [if_neg (show ¬ (2 : Int) = 0 by decide), if_neg (show ¬ (2 : Int) = 1 by decide), if_pos rfl, if_pos hlt, c1, e_ws_ (x := (n : Int) - 1) (by omega) (by omega), s0 f (by omega), f_bs, if_pos hlt, Int.toNat_natCast, s1 f (by omega), f_bs, if_pos hlt, s2 f (by omega), f_bs]
        first | done | rfl
      · rw [u_c (by decide), GG 67 0 (by omega) (by omega)]; exact c1
      · rw [u_c (by decide), GG 67 1 (by omega) (by omega)]; exact c2
      · rw [if_pos hz, u_s, GG 67 2 (by omega) (by omega), c3, y_ei (by omega)]
      · rw [u_r (by omega), u_r (by omega), u_r (by omega), GG _ 0 (by omega) (by omega), GG _ 1 (by omega) (by omega), GG 71 p (by omega) (by omega), eo 13 p (by omega) (by omega) (by omega), eo 14 p (by omega) (by omega) (by omega), eo 15 p (by omega) (by omega) (by omega)]; exact c4 p hp
      · rw [u_r (by omega), GG 71 p (by omega) (by omega)]; exact c5 p h1 h2
      · rw [u_r (by omega), GG 69 d (by omega) (by omega), eo 16 d (by omega) (by omega) (by omega)]; exact c6 d hd
      · rw [u_r (by omega), u_r (by omega), u_r (by omega), e17, e18, e19]
        by_cases c : k = t
        · rw [c, if_pos rfl, if_pos rfl, if_pos rfl]
          exact ⟨k0, k1, k2⟩
        · rw [if_neg c, if_neg c, if_neg c, GG _ 0 (by omega) (by omega), GG _ 1 (by omega) (by omega), GG _ 2 (by omega) (by omega)]; exact c7 k (by omega)
      · rw [u_r (by omega), GG r j (by omega) (by omega)]
      · rw [u_r (by decide), GG 64 7 (by omega) (by omega)]
  · refine ⟨0, 0, 0, a2, f2, p2, M2, fun f hf2 => ?_, C2, l2, fun hz => absurd hz hf, fun r j h1 _ => FF r j h1, fun N hN hR => ?_⟩
    · unfold f_X8_readClause f_X8_readTask f_X8_readTask_18
      rw [if_neg (show ¬ (3 : Int) = 0 by decide), if_neg (show ¬ (3 : Int) = 1 by decide), if_neg (show ¬ (3 : Int) = 2 by decide), if_pos rfl, b6, if_pos hlt.2, b4, e_ws_ (x := (n : Int) - 1) (by omega) (by omega), r0 f (by omega), f_bs, r1 f (by omega), f_bs, r2 f (by omega), f_bs, t_fd C2, f_bs, if_neg hf, if_pos (show ¬ (1 : Int) = 0 by decide), f_bs, f_bs]
      exact t_es2 hf C2
    · obtain ⟨c1, c2, c3, c4, c5, c6, c7⟩ := hR
      obtain ⟨N0, s0, t0, g0⟩ := m0 N hN
      obtain ⟨N1, s1, t1, g1⟩ := m1 (e_up N0 (88 + t) 0 (if f0 = 0 then v else 0)) (t_m_u (by omega) (by omega) t0)
      obtain ⟨N2, s2, t2, g2⟩ := m2 (e_up N1 (88 + t) 1 (if f1 = 0 then u else 0)) (t_m_u (by omega) (by omega) t1)
      have t3 : t_m T e a2 f2 p2 (e_up N2 (88 + t) 2 (if f2 = 0 then w else 0)) := t_m_u (by omega) (by omega) t2
      have hk := x_280 (κ := 2) (w0 := (t : Int)) (by decide) (fun f _ => t_ms2 hf t3) t3.2.2.1
      refine ⟨_, fun f hf => Eq.trans ?_ (hk f (by omega)), t_m_u (by decide) (by decide) t3, fun hz => absurd hz hf, fun r j h1 h2 => ?_, ?_⟩
      · unfold f_X11_clause_95
        rw [if_neg (show ¬ (2 : Int) = 0 by decide), if_neg (show ¬ (2 : Int) = 1 by decide), if_pos rfl, if_pos hlt, c1, e_ws_ (x := (n : Int) - 1) (by omega) (by omega), s0 f (by omega), f_bs, if_pos hlt, Int.toNat_natCast, s1 f (by omega), f_bs, if_pos hlt, s2 f (by omega), f_bs]
        first | done | rfl
      · rw [u_r (by omega), u_r (by omega), g2 r j (by omega), u_r (by omega), g1 r j (by omega), u_r (by omega), g0 r j (by omega)]
      · rw [u_r (by decide), u_r (by omega), g2 64 7 (by omega), u_r (by omega), g1 64 7 (by omega), u_r (by omega), g0 64 7 (by omega)]
