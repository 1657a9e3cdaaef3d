/-! TOWN -/
theorem z_cpt {M : e_M} : ∃ N, f_X8_copyFrom_town M = some (0, N) ∧ N 4 0 = M 12 0 ∧ N 4 1 = M 12 1 ∧ N 4 2 = M 12 2 ∧ (∀ p, p < 6 → N 5 p = M 13 p ∧ N 6 p = M 14 p ∧ N 7 p = M 15 p ∧ N 8 p = M 16 p) ∧ (∀ k, k < 12 → N 9 k = M 17 k ∧ N 10 k = M 18 k ∧ N 11 k = M 19 k) ∧ ∀ r j, ¬ (4 ≤ r ∧ r ≤ 11) → N r j = M r j := by
  refine ⟨_, rfl, ?_, ?_, ?_, fun p hp => ⟨?_, ?_, ?_, ?_⟩, fun k hk => ⟨?_, ?_, ?_⟩, fun r j h => ?_⟩
  · rfl
  · rfl
  · rfl
  · rw [cp_r (by decide), cp_r (by decide), cp_r (by decide), cp_r (by decide), cp_r (by decide), cp_r (by decide), cp_i (by omega), u_r (by decide), u_r (by decide), u_r (by decide), show 0 + (p - 0) = p by omega]
  · rw [cp_r (by decide), cp_r (by decide), cp_r (by decide), cp_r (by decide), cp_r (by decide), cp_i (by omega), cp_r (by decide), u_r (by decide), u_r (by decide), u_r (by decide), show 0 + (p - 0) = p by omega]
  · rw [cp_r (by decide), cp_r (by decide), cp_r (by decide), cp_r (by decide), cp_i (by omega), cp_r (by decide), cp_r (by decide), u_r (by decide), u_r (by decide), u_r (by decide), show 0 + (p - 0) = p by omega]
  · rw [cp_r (by decide), cp_r (by decide), cp_r (by decide), cp_i (by omega), cp_r (by decide), cp_r (by decide), cp_r (by decide), u_r (by decide), u_r (by decide), u_r (by decide), show 0 + (p - 0) = p by omega]
  · rw [cp_r (by decide), cp_r (by decide), cp_i (by omega), cp_r (by decide), cp_r (by decide), cp_r (by decide), cp_r (by decide), u_r (by decide), u_r (by decide), u_r (by decide), show 0 + (k - 0) = k by omega]
  · rw [cp_r (by decide), cp_i (by omega), cp_r (by decide), cp_r (by decide), cp_r (by decide), cp_r (by decide), cp_r (by decide), u_r (by decide), u_r (by decide), u_r (by decide), show 0 + (k - 0) = k by omega]
  · rw [cp_i (by omega), cp_r (by decide), cp_r (by decide), cp_r (by decide), cp_r (by decide), cp_r (by decide), cp_r (by decide), u_r (by decide), u_r (by decide), u_r (by decide), show 0 + (k - 0) = k by omega]
  · rw [cp_r (by omega), cp_r (by omega), cp_r (by omega), cp_r (by omega), cp_r (by omega), cp_r (by omega), cp_r (by omega), u_r (by omega), u_r (by omega), u_r (by omega)]
theorem q_bs_0 {c : Nat → Bool} {t : Nat} (h : ∀ k, k < t → c k = false) : q_bs c t = 0 := q_tbx (fun j => ⟨fun g => by
  have := q_bs_tb.mp g
  rw [h j this.1] at this
  exact absurd this.2 (by decide), fun g => by rw [Nat.zero_testBit] at g; exact absurd g (by decide)⟩)
/-- after a new town: both sides agree again -/
theorem z_new {M M1 Z : e_M} {n m t : Nat} (hB : x_B n m t M1) (hK2 : q_K2 Z) (hK1 : q_K1 Z)
    (c4 : Z 4 0 = (n : Int) ∧ Z 4 1 = (m : Int) ∧ Z 4 2 = (t : Int)) (c6 : ∀ p, p < 6 → Z 6 p = M1 14 p ∧ Z 7 p = M1 15 p ∧ Z 8 p = M1 16 p) (c9 : ∀ k, k < 12 → Z 9 k = M1 17 k ∧ Z 11 k = M1 19 k)
    (cz : Z 20 1 = 0 ∧ Z 28 0 = 0 ∧ Z 28 1 = 0 ∧ Z 55 1 = 0 ∧ Z 1 15 = 0 ∧ Z 36 2 = 0 ∧ Z 36 3 = 0 ∧ Z 36 4 = 0) (c37 : ∀ p, p < 6 → Z 37 p = M1 13 p ∧ Z 38 p = 0 ∧ Z 39 p = 0 ∧ Z 40 p = -1 ∧ Z 41 p = 0) (c42 : ∀ k, k < 12 → Z 42 k = M1 18 k)
    (m68 : Z 68 0 = (n : Int) ∧ Z 68 1 = (m : Int) ∧ Z 68 2 = (t : Int)) (m81 : ∀ p, p < n → Z (81 + p) 1 = M1 14 p ∧ Z 72 p = M1 15 p) (m70 : ∀ d, d < m → Z 70 d = M1 16 d) (m101 : ∀ k, k < t → Z (101 + k) 0 = M1 17 k ∧ Z (101 + k) 2 = M1 19 k)
    (m5 : ∀ j, j < 56 → Z 532 j = if j < 6 then (if j < n then M1 13 j else 0) else if 18 ≤ j ∧ j < 24 then -1 else if 30 ≤ j ∧ j < 30 + t then M1 18 (j - 30) else 0) (mz : Z 64 21 = 0 ∧ Z 64 35 = 0 ∧ Z 64 36 = 0 ∧ Z 64 38 = 0) : q_K Z := by
  obtain ⟨b1, b2, b3, b4, b5, b6, b7, b8, b9⟩ := hB
  have L0 : ∀ p, p < n → Z 532 p = M1 13 p := fun p hp => by rw [m5 p (by omega), if_pos (by omega), if_pos hp]
  have L6 : ∀ p, p < n → Z 532 (6 + p) = 0 := fun p hp => by rw [m5 _ (by omega), if_neg (by omega), if_neg (by omega), if_neg (by omega)]
  have L12 : ∀ p, p < n → Z 532 (12 + p) = 0 := fun p hp => by rw [m5 _ (by omega), if_neg (by omega), if_neg (by omega), if_neg (by omega)]
  have L18 : ∀ p, p < n → Z 532 (18 + p) = -1 := fun p hp => by rw [m5 _ (by omega), if_neg (by omega), if_pos (by omega)]
  have L24 : ∀ p, p < n → Z 532 (24 + p) = 0 := fun p hp => by rw [m5 _ (by omega), if_neg (by omega), if_neg (by omega), if_neg (by omega)]
  have L30 : ∀ k, k < t → Z 532 (30 + k) = M1 18 k := fun k hk => by rw [m5 _ (by omega), if_neg (by omega), if_neg (by omega), if_pos (by omega), show 30 + k - 30 = k by omega]
  have L42 : ∀ k, k < t → Z 532 (42 + k) = 0 := fun k hk => by rw [m5 _ (by omega), if_neg (by omega), if_neg (by omega), if_neg (by omega)]
  have L54 : Z 532 54 = 0 := by rw [m5 _ (by omega), if_neg (by omega), if_neg (by omega), if_neg (by omega)]
  have L55 : Z 532 55 = 0 := by rw [m5 _ (by omega), if_neg (by omega), if_neg (by omega), if_neg (by omega)]
  refine ⟨n, m, t, fun p => M1 14 p, fun p => (M1 15 p).toNat, fun d => M1 16 d, fun k => (M1 17 k).toNat, fun k => M1 19 k, 0, fun _ => 0, fun _ => 0, Z 532, ⟨b1, b2, b3, c4.1, c4.2.1, c4.2.2, m68.1, m68.2.1, m68.2.2, fun p hp => ?_, fun d hd => ?_, fun k hk => ?_⟩, hK1, hK2, ⟨by omega, cz.1, mz.1, fun _ h => absurd h (by omega)⟩, ⟨0, 0, by omega, by omega, cz.2.1, mz.2.1, cz.2.2.1, fun p _ => Or.inl ⟨Nat.zero_testBit p, fun _ h => absurd h (by omega)⟩⟩, ⟨⟨fun p hp => ?_, fun k hk => ?_, ?_, ?_, ?_⟩, fun _ _ => rfl, ?_⟩, ⟨0, by omega, cz.2.2.2.1, mz.2.2.1, fun _ h => absurd h (by omega)⟩, ⟨0, by omega, cz.2.2.2.2.1, mz.2.2.2, fun _ h => absurd h (by omega)⟩⟩
  · obtain ⟨s, s1, s2⟩ := (b7 p hp).2.2.2.2
    have es : ((M1 15 p).toNat : Int) = M1 15 p := by omega
    refine ⟨(c6 p (by omega)).1, (m81 p hp).1, (b7 p hp).2.2.1, (b7 p hp).2.2.2.1, ?_, ?_, ?_⟩
    · show Z 7 p = ((M1 15 p).toNat : Int)
      rw [es]; exact (c6 p (by omega)).2.1
    · show Z 72 p = ((M1 15 p).toNat : Int)
      rw [es]; exact (m81 p hp).2
    · show (M1 15 p).toNat < 2 ^ m
      rw [s1, Int.toNat_natCast]; exact s2
  · exact ⟨(c6 d (by omega)).2.2, m70 d hd, (b8 d hd).1, (b8 d hd).2⟩
  · obtain ⟨o, o1, o2, o3, o4, o5, o6⟩ := b9 k hk
    have es : ((M1 17 k).toNat : Int) = M1 17 k := by omega
    refine ⟨?_, ?_, ?_, (c9 k (by omega)).2, (m101 k hk).2, o5, o6⟩
    · show Z 9 k = ((M1 17 k).toNat : Int)
      rw [es]; exact (c9 k (by omega)).1
    · show Z (101 + k) 0 = ((M1 17 k).toNat : Int)
      rw [es]; exact (m101 k hk).1
    · show (M1 17 k).toNat < n
      rw [o1, Int.toNat_natCast]; exact o2
  · rw [L0 p hp, L6 p hp, L12 p hp, L18 p hp, L24 p hp]; exact c37 p (by omega)
  · rw [L30 k hk, L42 k hk]; exact ⟨c42 k (by omega), Or.inl rfl⟩
  · rw [L55]; exact cz.2.2.2.2.2.1
  · rw [L54]; exact cz.2.2.2.2.2.2.1
  · rw [q_bs_0 (fun k hk => by unfold q_dn; rw [L42 k hk]; decide)]; exact cz.2.2.2.2.2.2.2
  · unfold q_LB
    rw [L54, L55]
    refine ⟨by decide, by decide, by decide, by decide, fun p hp => ?_, fun k hk => ?_⟩
    · rw [L0 p hp, L6 p hp, L12 p hp, L18 p hp]
      have := b7 p hp
      omega
    · obtain ⟨o, o1, o2, o3, o4, o5, o6⟩ := b9 k hk
      rw [L30 k hk]; omega
theorem o_town {F : Nat} (hF : 2000 < F) (p : Int) : q_o2 (f_X10_town F p) (f_X11_town F p) k_c1 := by
  intro M k
  have k' := k
  obtain ⟨n, m, t, wa, sk, wo, ow, fi, l, cw, cv, L, hT, hK1, hK2, hLa, hK5, hLi, hK7, hK8⟩ := k'
  have h6 := hT.1
  have u1 := hK1.1
  have u2 := hK1.2.1
  have u3 := hK1.2.2.1
  by_cases hp : ¬ (0 ≤ p ∧ p ≤ min (M 2 1) 600)
  · refine q_ref1 (b := 0) (c := 1) k rfl (by decide) ?_ ?_
    · unfold f_X10_town f_X10_needText
      rw [r_nw, if_neg hp, f_tr, f_tr]
    · unfold f_X11_town f_X11_town_23
      rw [u_c (show (1 : Nat) ≠ 0 by decide), u_r (show (64 : Nat) ≠ 1 by decide), u3, r_in, f_bs, if_neg (show ¬ (0 ≤ p ∧ p ≤ M 2 1) by omega), if_neg (by decide), r_bada rfl (by decide), f_bs, if_neg (by decide)]
      rfl
  replace hp := Classical.not_not.mp hp
  obtain ⟨e, he, rfl⟩ := q_nat (n := 601) (p := p) (by omega)
  obtain ⟨b1, b2, hTT⟩ := t_beg (e := e) hK2
  have b3 : t_C (fun j => M 65 j) e 0 0 (-1) (e_up (e_up (e_up (e_up (e_up (e_up (e_up (e_up M 2 2 (e : Int)) 2 1 0) 2 3 0) 2 4 0) 2 5 (-1)) 12 0 0) 12 1 0) 12 2 0) := b2
  obtain ⟨n', m', t', fl, fp, M1, k1, kfl, kfp, kB, kF, kR⟩ := x_twn (T := fun j => M 65 j) hTT (by omega : e ≤ 600) 60 0 0 0 0 0 _ (by omega) (Nat.zero_le _) b3 ⟨by omega, by omega, by omega, rfl, rfl, rfl, fun _ h => absurd h (by omega), fun _ h => absurd h (by omega), fun _ h => absurd h (by omega)⟩
  have fr1 : ∀ a j, ¬ (a = 2 ∧ 1 ≤ j ∧ j ≤ 6) → ¬ (12 ≤ a ∧ a ≤ 19) → M1 a j = M a j := fun a j x1 x2 => by
    rw [kF a j (by omega) x2, u_r (by omega), u_r (by omega), u_r (by omega)]
    by_cases e2 : a = 2
    · subst e2
      rw [u_c (by omega), u_c (by omega), u_c (by omega), u_c (by omega), u_c (by omega)]
    · rw [u_r e2, u_r e2, u_r e2, u_r e2, u_r e2]
  have M21 : M1 2 1 = 0 := by rw [kF 2 1 (by omega) (by omega)]; rfl
  obtain ⟨MC, cp1, cp2, cp3, cp4, cp5, cp6, cp7⟩ := z_cpt (M := M1)
  obtain ⟨M9, bg1, bg2, bg3, bg4, bg5, bg6, bg7⟩ := z_beg (M := e_up (e_up (e_up (e_up (e_up (e_up MC 20 1 0) 28 0 0) 28 1 0) 32 6 0) 55 1 0) 1 15 0)
  have cls : f_X10_town F (e : Int) M = (if fl = 0 then some (.inl (M9 4 0), M9) else some (.inl (e_w (fl - 10)), M1)) := by
    unfold f_X10_town f_X10_needText f_X8_readFrom_townDraft
    rw [r_nw, if_pos hp, f_tl, f_tl, b1, f_bs]
    refine Eq.trans (congrArg (fun w => f_b w _) (k1 F (by omega))) ?_
    unfold f_X7_flawed f_X7_flawAnswer
    rw [f_bs, kfl]
    by_cases hf : fl = 0
    · rw [if_pos hf, f_bs, if_pos rfl, cp1, f_bs, if_pos hf]
      unfold f_X2_drop_law f_X0_drop_book f_X4_forgetRefused f_X5_drop
      rw [f_bs, f_bs, f_bs, f_bs, bg1 F (by omega), f_bs]
    · rw [if_neg hf, f_bs, if_neg (by decide), kfl, f_bs, if_neg hf]
  have mdl : ∀ (A : e_M) (v : Int), (∀ a j, 64 ≤ a → A a j = M a j) → ∃ N, (∀ a j, ¬ (a = 64 ∧ (j ≤ 2 ∨ (4 ≤ j ∧ j ≤ 8))) → ¬ (a = 67 ∨ a = 69 ∨ a = 71 ∨ (74 ≤ a ∧ a ≤ 79) ∨ (88 ≤ a ∧ a ≤ 99)) → a ≠ 557 → N a j = A a j) ∧ N 64 0 = 0 ∧ N 64 1 = 0 ∧ N 557 0 = v ∧ (fl = 0 → x_R n' m' t' M1 N) ∧ ∃ g, 700 < g ∧ f_X11_town F (e : Int) (e_up A 557 0 v) = if fl = 0 then (f_b (f_X11_beginsAnew g (e_up N 64 3 (-1))) fun _ NN => some (NN 68 0, NN)) else some (e_w (fl - 10), e_up N 64 3 fp) := by
    intro A v hA
    have A65 : ∀ j, j < 600 → (e_up (e_up A 557 0 v) 64 0 0) 65 j = (fun j => M 65 j) j := fun j hj => by
      rw [u_r (by decide), u_r (by decide), hA 65 j (by decide)]
    obtain ⟨N1, s1, s2, s3, s4, _, s6⟩ := t_str (e := e) hTT (by omega) A65
    obtain ⟨N2, w1, w2, w3, w4⟩ := z_tn (M := N1)
    have s2' : t_m (fun j => M 65 j) e (t_s (fun j => M 65 j) e 0) 0 (-1) N2 := ⟨by rw [w4 64 2 (by decide) (by decide)]; exact s2.1, by rw [w4 64 4 (by decide) (by decide)]; exact s2.2.1, by rw [w4 64 5 (by decide) (by decide)]; exact s2.2.2.1, by rw [w4 64 6 (by decide) (by decide)]; exact s2.2.2.2.1, fun j hj => by rw [w4 65 j (by decide) (by decide)]; exact s2.2.2.2.2 j hj⟩
    obtain ⟨N, v1, v2, v3⟩ := kR N2 (e : Int) s2' (by rw [w4 64 7 (by decide) (by decide)]; exact s4) ⟨w2 0 (by omega), w2 1 (by omega), w2 2 (by omega), fun _ h => absurd h (by omega), fun p _ h => w3 p h, fun _ h => absurd h (by omega), fun _ h => absurd h (by omega)⟩
    obtain ⟨g, v4, v5⟩ := v1 F (by omega)
    have fN : ∀ a j, ¬ (a = 64 ∧ (j = 1 ∨ j = 2 ∨ (4 ≤ j ∧ j ≤ 8))) → ¬ (a = 67 ∨ a = 69 ∨ a = 71 ∨ (74 ≤ a ∧ a ≤ 79) ∨ (88 ≤ a ∧ a ≤ 99)) → N a j = (e_up (e_up A 557 0 v) 64 0 0) a j := fun a j x1 x2 => by
      rw [v2 a j (by omega) x2, w4 a j (by omega) (by omega), s6 a j x1]
    refine ⟨N, fun a j x1 x2 x3 => ?_, ?_, ?_, ?_, v3, g, v4, ?_⟩
    · rw [fN a j (by omega) x2]
      by_cases e1 : a = 64
      · subst e1
        rw [u_c (by omega), u_r x3]
      · rw [u_r e1, u_r x3]
    · rw [fN 64 0 (by omega) (by omega), u_s]
    · rw [v2 64 1 (by omega) (by omega), w4 64 1 (by decide) (by decide)]; exact s3
    · rw [fN 557 0 (by omega) (by omega), u_r (by decide), u_s]
    · have e1 : (e_up (e_up A 557 0 v) 64 0 0) 64 1 = M 2 1 := by rw [u_c (by decide), u_r (by decide), hA 64 1 (by decide)]; exact u3
      unfold f_X11_town f_X11_town_23
      rw [e1, r_in, f_bs, if_pos (show 0 ≤ (e : Int) ∧ (e : Int) ≤ M 2 1 by omega), if_pos (show ¬ (1 : Int) = 0 by decide), r_bad0 rfl, f_bs, if_pos rfl, s1 F (by omega), f_bs, w1 F (by omega), f_bs]
      exact v5
  left
  by_cases hf : fl = 0
  · obtain ⟨kp, kb⟩ := kB hf
    have fr9 : ∀ a j, ¬ (36 ≤ a ∧ a ≤ 42) → ¬ (a = 1 ∧ j = 15) → ¬ (a = 55 ∧ j = 1) → ¬ (a = 32 ∧ j = 6) → ¬ (a = 28 ∧ j < 2) → ¬ (a = 20 ∧ j = 1) → M9 a j = MC a j := fun a j x1 x2 x3 x4 x5 x6 => by
      rw [bg7 a j x1]
      unfold e_up
      repeat' split
      all_goals first | rfl | omega
    have fr9' : ∀ a j, ¬ (36 ≤ a ∧ a ≤ 42) → ¬ (a = 1 ∧ j = 15) → ¬ (a = 55 ∧ j = 1) → ¬ (a = 32 ∧ j = 6) → ¬ (a = 28 ∧ j < 2) → ¬ (a = 20 ∧ j = 1) → ¬ (4 ≤ a ∧ a ≤ 19) → ¬ (a = 2 ∧ 1 ≤ j ∧ j ≤ 6) → M9 a j = M a j := fun a j x1 x2 x3 x4 x5 x6 x7 x8 => by
      rw [fr9 a j x1 x2 x3 x4 x5 x6, cp7 a j (by omega), fr1 a j x8 (by omega)]
    obtain ⟨N, w1, w2, w3, w4, w5, g, w6, w7⟩ := mdl M9 (M9 4 0) (fun a j h => fr9' a j (by omega) (by omega) (by omega) (by omega) (by omega) (by omega) (by omega) (by omega))
    obtain ⟨r1, r2, r3, r4, r5, r6, r7⟩ := w5 hf
    obtain ⟨c1, c2, c3, c4, c5, c6, c7, c8, c9⟩ := kb
    obtain ⟨Z, y1, y2, y3, y4, y5, y6, y7, y8, y9, y10, y11, y12, y13, y14⟩ := z_ba (M := e_up N 64 3 (-1)) (m := m') c1 c3 (by rw [u_r (by decide)]; exact r1) (by rw [u_r (by decide)]; exact r2) (by rw [u_r (by decide)]; exact r3)
    rw [if_pos hf] at cls w7
    have ZC : ∀ a j, a < 64 → Z a j = M9 a j := fun a j h => by rw [y14 a j (by omega) (by omega), u_r (by omega), w1 a j (by omega) (by omega) (by omega)]
    have h40 : M9 4 0 = (n' : Int) := by rw [fr9 4 0 (by omega) (by omega) (by omega) (by omega) (by omega) (by omega), cp2]; exact c4
    refine ⟨M9 4 0, M9, Z, cls, ?_, ?_, ?_, z_new (M := M) (M1 := M1) (n := n') (m := m') (t := t') ⟨c1, c2, c3, c4, c5, c6, c7, c8, c9⟩ ?_ ?_ ⟨?_, ?_, ?_⟩ (fun p hp => ⟨?_, ?_, ?_⟩) (fun k hk => ⟨?_, ?_⟩) ⟨?_, ?_, ?_, ?_, ?_, ?_, ?_, ?_⟩ (fun p hp => ?_) (fun k hk => ?_) ⟨y2, y3, y4⟩ (fun p hp => ⟨?_, ?_⟩) (fun d hd => ?_) (fun k hk => ⟨?_, ?_⟩) (fun j hj => ?_) ⟨y9, y10, y11, y13⟩⟩
    · rw [w7, y1 g (by omega), f_bs, y2, h40]
    · rw [y14 64 0 (by omega) (by omega), u_c (by decide)]; exact w2
    · rw [y14 557 0 (by omega) (by omega), u_r (by decide)]; exact w4
    · intro j hj
      rw [y14 65 j (by omega) (by omega), u_r (by decide), w1 65 j (by omega) (by omega) (by omega), ZC 3 j (by omega), fr9' 65 j (by omega) (by omega) (by omega) (by omega) (by omega) (by omega) (by omega) (by omega), fr9' 3 j (by omega) (by omega) (by omega) (by omega) (by omega) (by omega) (by omega) (by omega)]
      exact hK2 j hj
    · have q1 : Z 2 1 = 0 := by rw [ZC 2 1 (by omega), fr9 2 1 (by omega) (by omega) (by omega) (by omega) (by omega) (by omega), cp7 2 1 (by omega)]; exact M21
      have q2 : Z 2 5 = -1 := by rw [ZC 2 5 (by omega), fr9 2 5 (by omega) (by omega) (by omega) (by omega) (by omega) (by omega), cp7 2 5 (by omega), kfp]; exact kp
      have q3 : Z 64 1 = 0 := by rw [y14 64 1 (by omega) (by omega), u_c (by decide)]; exact w3
      have q4 : Z 64 3 = -1 := by rw [y14 64 3 (by omega) (by omega), u_s]
      have q5 : ∀ j, Z 66 j = M 66 j := fun j => by rw [y14 66 j (by omega) (by omega), u_r (by decide), w1 66 j (by omega) (by omega) (by omega), fr9' 66 j (by omega) (by omega) (by omega) (by omega) (by omega) (by omega) (by omega) (by omega)]
      have q6 : Z 1 16 = M 1 16 := by rw [ZC 1 16 (by omega), fr9' 1 16 (by omega) (by omega) (by omega) (by omega) (by omega) (by omega) (by omega) (by omega)]
      have q7 : Z 1 17 = M 1 17 := by rw [ZC 1 17 (by omega), fr9' 1 17 (by omega) (by omega) (by omega) (by omega) (by omega) (by omega) (by omega) (by omega)]
      have q8 : Z 32 6 = 0 := by rw [ZC 32 6 (by omega), bg7 32 6 (by omega), u_r (by decide), u_r (by decide), u_s]
      unfold q_K1
      rw [q1, q2, q3, q4, q5, q5, q6, q7, q8, y12]
      exact ⟨by decide, by decide, rfl, rfl, hK1.2.2.2.2.1, hK1.2.2.2.2.2.1, rfl⟩
    · rw [ZC 4 0 (by omega)]; exact h40
    · rw [ZC 4 1 (by omega), fr9 4 1 (by omega) (by omega) (by omega) (by omega) (by omega) (by omega), cp3]; exact c5
    · rw [ZC 4 2 (by omega), fr9 4 2 (by omega) (by omega) (by omega) (by omega) (by omega) (by omega), cp4]; exact c6
    · rw [ZC 6 p (by omega), fr9 6 p (by omega) (by omega) (by omega) (by omega) (by omega) (by omega)]; exact (cp5 p hp).2.1
    · rw [ZC 7 p (by omega), fr9 7 p (by omega) (by omega) (by omega) (by omega) (by omega) (by omega)]; exact (cp5 p hp).2.2.1
    · rw [ZC 8 p (by omega), fr9 8 p (by omega) (by omega) (by omega) (by omega) (by omega) (by omega)]; exact (cp5 p hp).2.2.2
    · rw [ZC 9 k (by omega), fr9 9 k (by omega) (by omega) (by omega) (by omega) (by omega) (by omega)]; exact (cp6 k hk).1
    · rw [ZC 11 k (by omega), fr9 11 k (by omega) (by omega) (by omega) (by omega) (by omega) (by omega)]; exact (cp6 k hk).2.2
    · rw [ZC 20 1 (by omega), bg7 20 1 (by omega)]; rfl
    · rw [ZC 28 0 (by omega), bg7 28 0 (by omega)]; rfl
    · rw [ZC 28 1 (by omega), bg7 28 1 (by omega)]; rfl
    · rw [ZC 55 1 (by omega), bg7 55 1 (by omega)]; rfl
    · rw [ZC 1 15 (by omega), bg7 1 15 (by omega)]; rfl
    · rw [ZC 36 2 (by omega)]; exact bg2
    · rw [ZC 36 3 (by omega)]; exact bg3
    · rw [ZC 36 4 (by omega)]; exact bg4
    · rw [ZC 37 p (by omega), ZC 38 p (by omega), ZC 39 p (by omega), ZC 40 p (by omega), ZC 41 p (by omega)]
      have := bg5 p hp
      rw [u_r (by decide), u_r (by decide), u_r (by decide), u_r (by decide), u_r (by decide), u_r (by decide), (cp5 p hp).1] at this
      exact this
    · rw [ZC 42 k (by omega), bg6 k hk, u_r (by decide), u_r (by decide), u_r (by decide), u_r (by decide), u_r (by decide), u_r (by decide)]
      exact (cp6 k hk).2.1
    · rw [(y5 p hp).2.1, u_r (by omega)]; exact (r4 p hp).2.1
    · rw [(y5 p hp).2.2, u_r (by omega)]; exact (r4 p hp).2.2
    · rw [y6 d (by omega), u_r (by omega)]; exact r6 d hd
    · rw [(y7 k hk).1, u_r (by omega)]; exact (r7 k hk).1
    · rw [(y7 k hk).2.2, u_r (by omega)]; exact (r7 k hk).2.2
    · rw [y8 j hj]
      unfold x_L
      rw [u_r (by omega), u_r (by omega)]
      by_cases z1 : j < 6
      · rw [if_pos z1, if_pos z1]
        by_cases z2 : j < n'
        · rw [if_pos z2, if_pos z2]; exact (r4 j z2).1
        · rw [if_neg z2, if_neg z2]
      · rw [if_neg z1, if_neg z1]
        by_cases z2 : 18 ≤ j ∧ j < 24
        · rw [if_pos z2, if_pos z2]
        · rw [if_neg z2, if_neg z2]
          by_cases z3 : 30 ≤ j ∧ j < 30 + t'
          · rw [if_pos z3, if_pos z3]; exact (r7 (j - 30) (by omega)).2.1
          · rw [if_neg z3, if_neg z3]
  · obtain ⟨N, w1, w2, w3, w4, w5, g, w6, w7⟩ := mdl M1 (e_w (fl - 10)) (fun a j h => fr1 a j (by omega) (by omega))
    rw [if_neg hf] at cls w7
    have frN : ∀ a j, ¬ (a = 2 ∧ 1 ≤ j ∧ j ≤ 6) → ¬ (12 ≤ a ∧ a ≤ 19) → ¬ (a = 64 ∧ j ≤ 8) → ¬ (a = 67 ∨ a = 69 ∨ a = 71 ∨ (74 ≤ a ∧ a ≤ 79) ∨ (88 ≤ a ∧ a ≤ 99)) → a ≠ 557 → (e_up N 64 3 fp) a j = M a j := fun a j x1 x2 x6 x8 x9 => by
      by_cases e1 : a = 64
      · subst e1
        rw [u_c (by omega), w1 64 j (by omega) x8 x9, fr1 64 j x1 x2]
      · rw [u_r e1, w1 a j (by omega) x8 x9, fr1 a j x1 x2]
    refine ⟨e_w (fl - 10), M1, e_up N 64 3 fp, cls, w7, ?_, ?_, n, m, t, wa, sk, wo, ow, fi, l, cw, cv, L, q_T_f (fun a j z => frN a j (by unfold q_F3 at z; omega) (by unfold q_F3 at z; omega) (by unfold q_F3 at z; omega) (by unfold q_F3 at z; omega) (by unfold q_F3 at z; omega)) hT, ?_, q_K2_f (fun a j z => frN a j (by unfold q_F2 at z; omega) (by unfold q_F2 at z; omega) (by unfold q_F2 at z; omega) (by unfold q_F2 at z; omega) (by unfold q_F2 at z; omega)) hK2, q_La_f (fun a j z => frN a j (by unfold q_F4 at z; omega) (by unfold q_F4 at z; omega) (by unfold q_F4 at z; omega) (by unfold q_F4 at z; omega) (by unfold q_F4 at z; omega)) hLa, q_K5_f h6 (fun a j z => frN a j (by unfold q_F5 at z; omega) (by unfold q_F5 at z; omega) (by unfold q_F5 at z; omega) (by unfold q_F5 at z; omega) (by unfold q_F5 at z; omega)) hK5, q_Li_f (fun a j z => frN a j (by unfold q_F6 at z; omega) (by unfold q_F6 at z; omega) (by unfold q_F6 at z; omega) (by unfold q_F6 at z; omega) (by unfold q_F6 at z; omega)) hLi, q_K7_f (fun a j z => frN a j (by unfold q_F7 at z; omega) (by unfold q_F7 at z; omega) (by unfold q_F7 at z; omega) (by unfold q_F7 at z; omega) (by unfold q_F7 at z; omega)) hK7, q_K8_f (fun a j z => frN a j (by unfold q_F8 at z; omega) (by unfold q_F8 at z; omega) (by unfold q_F8 at z; omega) (by unfold q_F8 at z; omega) (by unfold q_F8 at z; omega)) hK8⟩
    · rw [u_c (by decide)]; exact w2
    · rw [u_r (by decide)]; exact w4
    · have e1 : (e_up N 64 3 fp) 2 1 = 0 := by rw [u_r (by decide), w1 2 1 (by omega) (by omega) (by omega)]; exact M21
      have e2 : (e_up N 64 3 fp) 2 5 = fp := by rw [u_r (by decide), w1 2 5 (by omega) (by omega) (by omega)]; exact kfp
      have e3 : (e_up N 64 3 fp) 64 1 = 0 := by rw [u_c (by decide)]; exact w3
      unfold q_K1
      rw [e1, e2, e3, u_s, frN 66 0 (by omega) (by omega) (by omega) (by omega) (by omega), frN 1 16 (by omega) (by omega) (by omega) (by omega) (by omega), frN 66 1 (by omega) (by omega) (by omega) (by omega) (by omega), frN 1 17 (by omega) (by omega) (by omega) (by omega) (by omega), frN 64 37 (by omega) (by omega) (by omega) (by omega) (by omega), frN 32 6 (by omega) (by omega) (by omega) (by omega) (by omega)]
      exact ⟨by decide, by decide, rfl, rfl, hK1.2.2.2.2⟩
