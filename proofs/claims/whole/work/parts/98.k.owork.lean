/-! WORK -/
theorem z_psh {M : e_M} {h : Nat} (h2 : M 55 1 = (h : Int)) (hh : h < 16) : f_X5_push 55 56 765 M = some (0, e_up (z_SD (45 * h) 56 M) 55 1 ((h + 1 : Nat) : Int)) := by
  unfold f_X5_push
  rw [h2, if_neg (show ¬ (17 : Int) ≤ (h : Int) by omega), e_ws_ (x := (h : Int) * 45) (by omega) (by omega), show (h : Int) * 45 = ((45 * h : Nat) : Int) by omega, z_sv (by omega) (by omega), f_bs, z_SD_r (by decide), h2, y_ei (by omega)]
theorem o_work {F : Nat} (hF : 3500 < F) (p : Int) : q_o2 (f_X10_work F p) (f_X11_work F p) k_c1 := by
  intro M k
  have k' := k
  obtain ⟨n, m, t, wa, sk, wo, ow, fi, l, cw, cv, L, hT, hK1, hK2, hLa, hK5, hLi, hK7, hK8⟩ := k'
  have h6 := hT.1
  have h12 := hT.2.2.1
  have u1 := hK1.1
  have u2 := hK1.2.1
  have u3 := hK1.2.2.1
  by_cases hp : ¬ (0 ≤ p ∧ p ≤ min (M 2 1) 150)
  · refine q_ref1 (b := 0) (c := 1) k rfl (by decide) ?_ ?_
    · unfold f_X10_work f_X10_needText
      rw [r_nw, if_neg hp, f_tr, f_tr]
    · unfold f_X11_work f_X11_work_30
      rw [u_c (show (1 : Nat) ≠ 0 by decide), u_r (show (64 : Nat) ≠ 1 by decide), u3, r_in, f_bs]
      by_cases h1 : 0 ≤ p ∧ p ≤ M 2 1
      · rw [if_pos h1, if_neg (by decide), if_neg (show ¬ p ≤ 150 by omega), r_bada rfl (by decide), f_bs, if_neg (by decide)]
        rfl
      · rw [if_neg h1, if_pos rfl, r_bada rfl (by decide), f_bs, if_neg (by decide)]
        rfl
  replace hp := Classical.not_not.mp hp
  obtain ⟨e, he, rfl⟩ := q_nat (n := 151) (p := p) (by omega)
  obtain ⟨b1, b2, hTT⟩ := t_beg (e := e) hK2
  obtain ⟨h, hh, kh2, kh3, kh4⟩ := hK7
  left
  by_cases hfull : h = 16
  · -- no room
    have fr0 : ∀ a j, ¬ (a = 2 ∧ 1 ≤ j ∧ j ≤ 5) → (e_up (e_up (e_up (e_up (e_up M 2 2 (e : Int)) 2 1 0) 2 3 0) 2 4 0) 2 5 (-1)) a j = M a j := fun a j x1 => by
      by_cases e2 : a = 2
      · subst e2
        rw [u_c (by omega), u_c (by omega), u_c (by omega), u_c (by omega), u_c (by omega)]
      · rw [u_r e2, u_r e2, u_r e2, u_r e2, u_r e2]
    obtain ⟨M0, hM0⟩ : ∃ X, X = e_up (e_up (e_up (e_up (e_up M 2 2 (e : Int)) 2 1 0) 2 3 0) 2 4 0) 2 5 (-1) := ⟨_, rfl⟩
    rw [← hM0] at b1 fr0
    have m21 : M0 2 1 = 0 := by rw [hM0]; rfl
    have m25 : M0 2 5 = -1 := by rw [hM0]; rfl
    have cls : f_X10_work F (e : Int) M = some (.inl (-20), M0) := by
      unfold f_X10_work f_X10_needText
      rw [r_nw, if_pos hp, f_tl, f_tl, b1, f_bs, fr0 55 1 (by omega), kh2, if_neg (show ¬ (h : Int) < 16 by omega)]
    have frN : ∀ a j, ¬ (a = 2 ∧ 1 ≤ j ∧ j ≤ 5) → ¬ (a = 64 ∧ (j = 0 ∨ j = 1 ∨ j = 3)) → a ≠ 557 → (e_up (e_up (e_up (e_up M0 557 0 (-20)) 64 0 0) 64 1 0) 64 3 (-1)) a j = M a j := fun a j x1 x2 x3 => by
      by_cases e2 : a = 64
      · subst e2
        rw [u_c (by omega), u_c (by omega), u_c (by omega), u_r x3, fr0 64 j x1]
      · rw [u_r e2, u_r e2, u_r e2, u_r x3, fr0 a j x1]
    refine ⟨-20, M0, e_up (e_up (e_up (e_up M0 557 0 (-20)) 64 0 0) 64 1 0) 64 3 (-1), cls, ?_, ?_, ?_, n, m, t, wa, sk, wo, ow, fi, l, cw, cv, L, q_T_f (fun a j z => frN a j (by unfold q_F3 at z; omega) (by unfold q_F3 at z; omega) (by unfold q_F3 at z; omega)) hT, ?_, q_K2_f (fun a j z => frN a j (by unfold q_F2 at z; omega) (by unfold q_F2 at z; omega) (by unfold q_F2 at z; omega)) hK2, q_La_f (fun a j z => frN a j (by unfold q_F4 at z; omega) (by unfold q_F4 at z; omega) (by unfold q_F4 at z; omega)) hLa, q_K5_f h6 (fun a j z => frN a j (by unfold q_F5 at z; omega) (by unfold q_F5 at z; omega) (by unfold q_F5 at z; omega)) hK5, q_Li_f (fun a j z => frN a j (by unfold q_F6 at z; omega) (by unfold q_F6 at z; omega) (by unfold q_F6 at z; omega)) hLi, q_K7_f (fun a j z => frN a j (by unfold q_F7 at z; omega) (by unfold q_F7 at z; omega) (by unfold q_F7 at z; omega)) ⟨h, hh, kh2, kh3, kh4⟩, q_K8_f (fun a j z => frN a j (by unfold q_F8 at z; omega) (by unfold q_F8 at z; omega) (by unfold q_F8 at z; omega)) hK8⟩
    · have e1 : (e_up (e_up M0 557 0 (-20)) 64 0 0) 64 1 = M 2 1 := by rw [u_c (by decide), u_r (by decide), fr0 64 1 (by omega)]; exact u3
      have e36 : (e_up (e_up M0 557 0 (-20)) 64 0 0) 64 36 = 16 := by rw [u_c (by decide), u_r (by decide), fr0 64 36 (by omega), kh3, hfull]; rfl
      unfold f_X11_work f_X11_work_30
      rw [e1, r_in, f_bs, if_pos (show 0 ≤ (e : Int) ∧ (e : Int) ≤ M 2 1 by omega), if_neg (by decide), if_pos (show (e : Int) ≤ 150 by omega), r_bad0 rfl, f_bs, if_pos rfl, e36, if_neg (show ¬ ¬ (16 : Int) = 16 by decide)]
    · rw [u_c (by decide), u_c (by decide), u_s]
    · rw [u_r (by decide), u_r (by decide), u_r (by decide), u_s]
    · have e1 : (e_up (e_up (e_up (e_up M0 557 0 (-20)) 64 0 0) 64 1 0) 64 3 (-1)) 2 1 = 0 := by rw [u_r (by decide), u_r (by decide), u_r (by decide), u_r (by decide)]; exact m21
      have e2 : (e_up (e_up (e_up (e_up M0 557 0 (-20)) 64 0 0) 64 1 0) 64 3 (-1)) 2 5 = -1 := by rw [u_r (by decide), u_r (by decide), u_r (by decide), u_r (by decide)]; exact m25
      have e3 : (e_up (e_up (e_up (e_up M0 557 0 (-20)) 64 0 0) 64 1 0) 64 3 (-1)) 64 1 = 0 := by rw [u_c (by decide), u_s]
      unfold q_K1
      rw [e1, e2, e3, u_s, frN 66 0 (by omega) (by omega) (by omega), frN 1 16 (by omega) (by omega) (by omega), frN 66 1 (by omega) (by omega) (by omega), frN 1 17 (by omega) (by omega) (by omega), frN 64 37 (by omega) (by omega) (by omega), frN 32 6 (by omega) (by omega) (by omega)]
      exact ⟨by decide, by decide, rfl, rfl, hK1.2.2.2.2⟩
  -- the text is read
  have hC0 : p_C (fun j => M 65 j) e n t 0 0 (e_up (e_up (e_up (e_up (e_up (e_up M 2 2 (e : Int)) 2 1 0) 2 3 0) 2 4 0) 2 5 (-1)) 32 0 0) := ⟨Nat.zero_le _, t_C_u (by decide) (by decide) b2, u_s _ _ _ _, by omega, hT.2.2.2.1, hT.2.2.2.2.2.1⟩
  obtain ⟨lp, fl, fp, M1, k1, kfl, kfp, kc, kF, kR⟩ := p_read (F := F) (by omega) hTT (by omega : e ≤ 150) h6 h12 hC0
  have fr1 : ∀ a j, ¬ (a = 2 ∧ 1 ≤ j ∧ j ≤ 6) → ¬ (a = 32 ∧ j = 0) → ¬ (33 ≤ a ∧ a ≤ 35) → M1 a j = M a j := fun a j x1 x2 x3 => by
    rw [kF a j (by omega) x2 (by omega)]
    by_cases e2 : a = 2
    · subst e2
      rw [u_r (by decide), u_c (by omega), u_c (by omega), u_c (by omega), u_c (by omega), u_c (by omega)]
    · by_cases e3 : a = 32
      · subst e3
        rw [u_c (by omega), u_r e2, u_r e2, u_r e2, u_r e2, u_r e2]
      · rw [u_r e3, u_r e2, u_r e2, u_r e2, u_r e2, u_r e2]
  have M21 : M1 2 1 = 0 := by rw [kF 2 1 (by omega) (by omega) (by omega)]; rfl
  have z552 : M1 55 1 = (h : Int) := by rw [fr1 55 1 (by omega) (by omega) (by omega)]; exact kh2
  have cls : ∀ K, (f_b (f_k_X4_readSteps F 0 (e_up (e_up (e_up (e_up (e_up (e_up M 2 2 (e : Int)) 2 1 0) 2 3 0) 2 4 0) 2 5 (-1)) 32 0 0)) K : Option (Int × e_M)) = K 0 M1 := fun K => by rw [k1, f_bs]
  have clw : f_X10_work F (e : Int) M = (if fl = 0 then (f_b (f_X5_push 55 56 765 M1) fun _ NN14 => (f_b (f_X4_runOn F NN14) fun rr15 NN16 => (some ((.inl rr15), NN16)))) else some (.inl (e_w (fl - 10)), M1)) := by
    unfold f_X10_work f_X10_needText f_X4_readFrom
    have e1 : (e_up (e_up (e_up (e_up (e_up M 2 2 (e : Int)) 2 1 0) 2 3 0) 2 4 0) 2 5 (-1)) 55 1 = (h : Int) := kh2
    rw [r_nw, if_pos hp, f_tl, f_tl, b1, f_bs, e1, if_pos (show (h : Int) < 16 by omega), k1, f_bs, f_bs]
    unfold f_X7_flawed f_X7_flawAnswer
    rw [kfl]
    by_cases hf : fl = 0
    · rw [if_pos hf, f_bs, if_pos rfl, if_pos hf]
    · rw [if_neg hf, f_bs, if_neg (by decide), kfl, f_bs, if_neg hf]
  -- the model reads, from any memory like it
  have mdl : ∀ (A : e_M) (v : Int), (∀ a j, 64 ≤ a → A a j = M a j) → ∃ (g : Nat) (N : e_M), F ≤ g + 210 ∧ (∀ a j, ¬ (a = 64 ∧ (j ≤ 2 ∨ (4 ≤ j ∧ j ≤ 8) ∨ j = 30)) → ¬ (452 ≤ a ∧ a ≤ 531) → a ≠ 557 → N a j = A a j) ∧ N 64 0 = 0 ∧ N 64 1 = 0 ∧ N 557 0 = v ∧ N 64 5 = fl ∧ N 64 6 = fp ∧ (fl = 0 → N 64 30 = (lp : Int) ∧ p_E M1 N 0 lp) ∧ f_X11_work F (e : Int) (e_up A 557 0 v) = f_X11_work_101 g (e : Int) N := by
    intro A v hA
    have A65 : ∀ j, j < 600 → (e_up (e_up A 557 0 v) 64 0 0) 65 j = (fun j => M 65 j) j := fun j hj => by
      rw [u_r (by decide), u_r (by decide), hA 65 j (by decide)]
    obtain ⟨N1, s1, s2, s3, s4, s5, s6⟩ := t_str (e := e) hTT (by omega) A65
    have hN2 : p_N (fun j => M 65 j) e n t 0 (t_s (fun j => M 65 j) e 0) 0 (e_up N1 64 30 0) := ⟨t_m_v (by decide) s2, u_s _ _ _ _, by rw [u_c (by decide)]; exact s5, by rw [u_r (by decide), s6 68 0 (by omega), u_r (by decide), u_r (by decide), hA 68 0 (by decide)]; exact hT.2.2.2.2.2.2.1, by rw [u_r (by decide), s6 68 2 (by omega), u_r (by decide), u_r (by decide), hA 68 2 (by decide)]; exact hT.2.2.2.2.2.2.2.2.1⟩
    obtain ⟨g, N, v1, v2, v3, v4, v5, v6⟩ := kR _ (e : Int) hN2
    have fN : ∀ a j, ¬ (a = 64 ∧ (j = 1 ∨ j = 2 ∨ (4 ≤ j ∧ j ≤ 8) ∨ j = 30)) → ¬ (452 ≤ a ∧ a ≤ 531) → N a j = (e_up (e_up A 557 0 v) 64 0 0) a j := fun a j x1 x2 => by
      rw [v6 a j (by omega) (by omega)]
      by_cases e1 : a = 64
      · subst e1
        rw [u_c (by omega), s6 64 j (by omega)]
      · rw [u_r e1, s6 a j (by omega)]
    refine ⟨g, N, v1, fun a j x1 x2 x3 => ?_, ?_, ?_, ?_, v3, v4, v5, ?_⟩
    · rw [fN a j (by omega) x2]
      by_cases e1 : a = 64
      · subst e1
        rw [u_c (by omega), u_r x3]
      · rw [u_r e1, u_r x3]
    · rw [fN 64 0 (by omega) (by omega), u_s]
    · rw [v6 64 1 (by omega) (by omega), u_c (by decide)]; exact s3
    · rw [fN 557 0 (by omega) (by omega), u_r (by decide), u_s]
    · have e1 : (e_up (e_up A 557 0 v) 64 0 0) 64 1 = M 2 1 := by rw [u_c (by decide), u_r (by decide), hA 64 1 (by decide)]; exact u3
      have e36 : (e_up (e_up A 557 0 v) 64 0 0) 64 36 = (h : Int) := by rw [u_c (by decide), u_r (by decide), hA 64 36 (by decide)]; exact kh3
      unfold f_X11_work f_X11_work_30
      rw [e1, r_in, f_bs, if_pos (show 0 ≤ (e : Int) ∧ (e : Int) ≤ M 2 1 by omega), if_neg (by decide), if_pos (show (e : Int) ≤ 150 by omega), r_bad0 rfl, f_bs, if_pos rfl, e36, if_pos (show ¬ (h : Int) = 16 by omega), s1 F (by omega), f_bs]
      exact v2
  by_cases hf : fl = 0
  · -- it is done
    obtain ⟨kp, kl, kl30, kS⟩ := kc hf
    rw [if_pos hf, z_psh z552 (by omega), f_bs] at clw
    obtain ⟨M2, hM2⟩ : ∃ X, X = e_up (z_SD (45 * h) 56 M1) 55 1 ((h + 1 : Nat) : Int) := ⟨_, rfl⟩
    rw [← hM2] at clw
    have fr2 : ∀ a j, a ≠ 56 → ¬ (a = 55 ∧ j = 1) → M2 a j = M1 a j := fun a j x1 x2 => by
      rw [hM2]
      by_cases e1 : a = 55
      · subst e1; rw [u_c (by omega), z_SD_r x1]
      · rw [u_r e1, z_SD_r x1]
    obtain ⟨M3, hM3⟩ : ∃ X, X = e_up (e_up (e_up M2 32 4 0) 32 5 0) 32 6 0 := ⟨_, rfl⟩
    have fr3 : ∀ a j, ¬ (a = 32 ∧ 4 ≤ j ∧ j ≤ 6) → M3 a j = M2 a j := fun a j x1 => by
      rw [hM3]
      by_cases e1 : a = 32
      · subst e1; rw [u_c (by omega), u_c (by omega), u_c (by omega)]
      · rw [u_r e1, u_r e1, u_r e1]
    have fr31 : ∀ a j, a ≠ 56 → ¬ (a = 55 ∧ j = 1) → ¬ (a = 32 ∧ 4 ≤ j ∧ j ≤ 6) → M3 a j = M1 a j := fun a j x1 x2 x3 => by rw [fr3 a j x3, fr2 a j x1 x2]
    have fr30 : ∀ a j, a ≠ 56 → ¬ (a = 55 ∧ j = 1) → ¬ (a = 32 ∧ (j = 0 ∨ (4 ≤ j ∧ j ≤ 6))) → ¬ (a = 2 ∧ 1 ≤ j ∧ j ≤ 6) → ¬ (33 ≤ a ∧ a ≤ 35) → M3 a j = M a j := fun a j x1 x2 x3 x4 x5 => by rw [fr31 a j x1 x2 (by omega), fr1 a j x4 (by omega) x5]
    have hCC : r_C n m t wa sk wo ow fi l cw cv M3 L 0 0 0 M3 := ⟨q_T_f (fun a j z => fr30 a j (by unfold q_F3 at z; omega) (by unfold q_F3 at z; omega) (by unfold q_F3 at z; omega) (by unfold q_F3 at z; omega) (by unfold q_F3 at z; omega)) hT, q_La_f (fun a j z => fr30 a j (by unfold q_F4 at z; omega) (by unfold q_F4 at z; omega) (by unfold q_F4 at z; omega) (by unfold q_F4 at z; omega) (by unfold q_F4 at z; omega)) hLa, q_cn_f (fun a j z => fr30 a j (by omega) (by omega) (by omega) (by omega) (by omega)) hLi.1, hLi.2.2, by rw [hM3]; rfl, by rw [hM3]; rfl, by rw [hM3]; rfl, by omega, by omega, fun _ => ⟨rfl, rfl, rfl⟩⟩
    have hPS : p_S n t M3 6 0 lp := p_S_c (fun k _ _ => ⟨fr31 33 k (by omega) (by omega) (by omega), fr31 34 k (by omega) (by omega) (by omega), fr31 35 k (by omega) (by omega) (by omega)⟩) kS
    obtain ⟨L', b', s', r', M4, q1, q2, q3, q4⟩ := r_run (n := n) (m := m) (t := t) (wa := wa) (sk := sk) (wo := wo) (ow := ow) (fi := fi) (l := l) (cw := cw) (cv := cv) (P := M3) (lp := lp) (F := F) (by omega) kl30 40 6 0 lp 9 9 (hPS 40 (by omega)) (Nat.le_refl _) (by omega) (by omega) (by omega) 0 L 0 0 0 M3 (Nat.le_refl _) hCC
    have q2' := q2
    obtain ⟨c1, c2, c3, c4, c5, c6, c7, c8, c9, c10⟩ := q2'
    have clf : f_X10_work F (e : Int) M = some (.inl (s' : Int), M4) := by
      rw [clw]
      unfold f_X4_runOn f_k_X4_runSteps
      have e30 : M3 32 0 = (lp : Int) := by rw [fr31 32 0 (by omega) (by omega) (by omega)]; exact kl
      rw [← hM3, e30, g_X4_runSteps]
      unfold f_X4_runSteps
      rw [if_pos (show (0 : Int) ≤ 6 by decide)]
      have q1' := q1 F 0 (by omega)
      refine Eq.trans (congrArg (fun w => f_b (f_b w _) _) q1') ?_
      rw [f_bs, f_bs, c6]
    have frC : ∀ a j, ¬ (a = 22 ∨ a = 23 ∨ (36 ≤ a ∧ a ≤ 42)) → a ≠ 32 → a ≠ 56 → ¬ (a = 55 ∧ j = 1) → ¬ (a = 2 ∧ 1 ≤ j ∧ j ≤ 6) → ¬ (33 ≤ a ∧ a ≤ 35) → M4 a j = M a j := fun a j x1 x2 x3 x4 x5 x6 => by rw [q3 a j x1 (by omega), fr30 a j x3 x4 (by omega) x5 x6]
    obtain ⟨g, N, w0, w1, w2, w3, w4, w5, w6, w7, w8⟩ := mdl M4 (s' : Int) (fun a j ha => frC a j (by omega) (by omega) (by omega) (by omega) (by omega) (by omega))
    obtain ⟨w9, wE⟩ := w7 hf
    obtain ⟨N3, y1, y2, y3⟩ := r_copies (M := e_up N 64 3 (-1)) (q0 := 532) (q1 := 535 + h) (by omega)
    have n36 : (e_up N 64 3 (-1)) 64 36 = (h : Int) := by rw [u_c (by decide), w1 64 36 (by omega) (by omega) (by omega), frC 64 36 (by omega) (by omega) (by omega) (by omega) (by omega) (by omega)]; exact kh3
    obtain ⟨N4, hN4⟩ : ∃ X, X = e_up (e_up (e_up (e_up N3 64 36 ((h + 1 : Nat) : Int)) 64 40 0) 64 41 0) 64 37 0 := ⟨_, rfl⟩
    have f4 : ∀ a j, ¬ (a = 64 ∧ (j = 3 ∨ j = 36 ∨ j = 37 ∨ j = 40 ∨ j = 41)) → a ≠ 535 + h → N4 a j = N a j := fun a j x1 x2 => by
      rw [hN4]
      by_cases e1 : a = 64
      · subst e1; rw [u_c (by omega), u_c (by omega), u_c (by omega), u_c (by omega), y3 64 j (by omega), u_c (by omega)]
      · rw [u_r e1, u_r e1, u_r e1, u_r e1, y3 a j x2, u_r e1]
    have f4M : ∀ a j, ¬ (a = 64 ∧ (j ≤ 8 ∨ j = 30 ∨ j = 36 ∨ j = 37 ∨ j = 40 ∨ j = 41)) → a ≠ 535 + h → ¬ (452 ≤ a ∧ a ≤ 531) → a ≠ 557 → N4 a j = M4 a j := fun a j x1 x2 x3 x4 => by rw [f4 a j (by omega) x2, w1 a j (by omega) x3 x4]
    have m532 : ∀ j, N 532 j = M 532 j := fun j => by rw [w1 532 j (by omega) (by omega) (by omega), frC 532 j (by omega) (by omega) (by omega) (by omega) (by omega) (by omega)]
    have hNN : r_N n m t wa sk wo ow fi l cw cv M3 lp L 0 0 0 N4 := ⟨L, q_T_f (fun a j z => f4M a j (by unfold q_F3 at z; omega) (by unfold q_F3 at z; omega) (by unfold q_F3 at z; omega) (by unfold q_F3 at z; omega)) c1, q_La_f (fun a j z => f4M a j (by unfold q_F4 at z; omega) (by unfold q_F4 at z; omega) (by unfold q_F4 at z; omega) (by unfold q_F4 at z; omega)) c2, fun j hj => by rw [f4 532 j (by omega) (by omega), m532 j]; exact hLi.2.1 j hj, q_ag.rf, by rw [hN4]; rfl, by rw [hN4]; rfl, by rw [hN4]; rfl, fun k x1 x2 => by
      obtain ⟨z1, z2, z3⟩ := wE k x1 x2
      rw [f4 _ 0 (by omega) (by omega), f4 _ 1 (by omega) (by omega), f4 _ 3 (by omega) (by omega), fr31 33 k (by omega) (by omega) (by omega), fr31 34 k (by omega) (by omega) (by omega), fr31 35 k (by omega) (by omega) (by omega)]
      exact ⟨z1, z2, z3⟩⟩
    obtain ⟨Z, o1, ⟨R', oT, oL, oR, oA, o40, o41, o37, _⟩, o3⟩ := q4 N4 hNN g (by omega)
    have ZC : ∀ a j, a < 64 → Z a j = M4 a j := fun a j ha => by rw [o3 a j (by omega) (by omega), f4M a j (by omega) (by omega) (by omega) (by omega)]
    have frZ : ∀ a j, 64 ≤ a → ¬ (a = 64 ∧ (j ≤ 8 ∨ j = 30 ∨ j = 36 ∨ j = 37 ∨ j = 40 ∨ j = 41)) → a ≠ 535 + h → ¬ (452 ≤ a ∧ a ≤ 531) → a ≠ 557 → ¬ (a = 449 ∨ a = 450 ∨ a = 532) → Z a j = M a j := fun a j x0 x1 x2 x3 x4 x5 => by rw [o3 a j x5 (by omega), f4M a j x1 x2 x3 x4, frC a j (by omega) (by omega) (by omega) (by omega) (by omega) (by omega)]
    have Z56 : ∀ j, Z 56 j = z_SD (45 * h) 56 M1 56 j := fun j => by rw [ZC 56 j (by omega), q3 56 j (by omega) (by omega), fr3 56 j (by omega), hM2, u_r (by decide)]
    have Zh : ∀ j, j < 56 → Z (535 + h) j = L j := fun j hj => by
      rw [o3 (535 + h) j (by omega) (by omega), hN4, u_r (by omega), u_r (by omega), u_r (by omega), u_r (by omega), y2 j hj, u_r (by decide), m532 j]; exact hLi.2.1 j hj
    refine ⟨(s' : Int), M4, Z, clf, ?_, ?_, ?_, n, m, t, wa, sk, wo, ow, fi, l, cw, cv, R', oT, ?_, fun j hj => ?_, oL, q_K5_f h6 (fun a j z => ?_) hK5, ⟨q_cn_ag oA (q_cn_f (fun a j z => ZC a j (by omega)) c3), oR, d_LB_ag oA c4⟩, ⟨h + 1, by omega, ?_, ?_, fun w hw => ?_⟩, q_K8_f (fun a j z => ?_) hK8⟩
    · rw [w8]
      unfold f_X11_work_101 f_k_X11_goes
      rw [w5, if_pos hf, n36, if_pos (show 0 ≤ (h : Int) ∧ (h : Int) < 16 by omega), Int.toNat_natCast, y1 g (by omega), f_bs]
      have e36 : N3 64 36 = (h : Int) := by rw [y3 64 36 (by omega)]; exact n36
      have e30 : N4 64 30 = (lp : Int) := by rw [f4 64 30 (by omega) (by omega)]; exact w9
      rw [e36, y_ei (by omega), ← hN4, e30, g_X11_goes]
      unfold f_X11_goes
      have o1' := o1 g 0 (by omega)
      refine Eq.trans (congrArg (fun w => f_b w _) o1') ?_
      rw [f_bs, o41]
    · rw [o3 64 0 (by omega) (by omega), f4 64 0 (by omega) (by omega)]; exact w2
    · rw [o3 557 0 (by omega) (by omega), f4 557 0 (by omega) (by omega)]; exact w4
    · have e1 : Z 2 1 = 0 := by rw [ZC 2 1 (by omega), q3 2 1 (by omega) (by omega), fr31 2 1 (by omega) (by omega) (by omega)]; exact M21
      have e2 : Z 2 5 = -1 := by rw [ZC 2 5 (by omega), q3 2 5 (by omega) (by omega), fr31 2 5 (by omega) (by omega) (by omega), kfp]; exact kp
      have e3 : Z 64 1 = 0 := by rw [o3 64 1 (by omega) (by omega), f4 64 1 (by omega) (by omega)]; exact w3
      have e4 : Z 64 3 = -1 := by rw [o3 64 3 (by omega) (by omega), hN4, u_c (by decide), u_c (by decide), u_c (by decide), u_c (by decide), y3 64 3 (by omega), u_s]
      have e5 : Z 32 6 = (r' : Int) := by rw [ZC 32 6 (by omega)]; exact c7
      unfold q_K1
      rw [e1, e2, e3, e4, e5, o37, frZ 66 0 (by omega) (by omega) (by omega) (by omega) (by omega) (by omega), frZ 66 1 (by omega) (by omega) (by omega) (by omega) (by omega) (by omega), ZC 1 16 (by omega), ZC 1 17 (by omega), frC 1 16 (by omega) (by omega) (by omega) (by omega) (by omega) (by omega), frC 1 17 (by omega) (by omega) (by omega) (by omega) (by omega) (by omega)]
      exact ⟨by decide, by decide, rfl, rfl, hK1.2.2.2.2.1, hK1.2.2.2.2.2.1, rfl⟩
    · rw [frZ 65 j (by omega) (by omega) (by omega) (by omega) (by omega) (by omega), ZC 3 j (by omega), frC 3 j (by omega) (by omega) (by omega) (by omega) (by omega) (by omega)]
      exact hK2 j hj
    · unfold q_F5 at z
      by_cases ha : a < 64
      · rw [ZC a j ha, frC a j (by omega) (by omega) (by omega) (by omega) (by omega) (by omega)]
      · exact frZ a j (by omega) (by omega) (by omega) (by omega) (by omega) (by omega)
    · rw [ZC 55 1 (by omega), q3 55 1 (by omega) (by omega), fr3 55 1 (by omega), hM2, u_s]
    · rw [o3 64 36 (by omega) (by omega), hN4, u_c (by decide), u_c (by decide), u_c (by decide), u_s]
    · by_cases ew : w = h
      · subst ew
        refine ⟨z_CLc h6 h12 (C := fun j => z_SD (45 * w) 56 M1 56 (45 * w + j)) (L := L) (fun j _ => Z56 _) Zh (z_SD_CL (by decide) h6 h12 (q_cn_f (fun a j z => fr1 a j (by omega) (by omega) (by omega)) hLi.1)), z_LBc h6 h12 Zh hLi.2.2⟩
      · obtain ⟨x1, x2⟩ := kh4 w (by omega)
        have er : ∀ j, Z (535 + w) j = M (535 + w) j := fun j => frZ _ j (by omega) (by omega) (by omega) (by omega) (by omega) (by omega)
        refine ⟨z_CLc h6 h12 (fun j hj => ?_) (fun j _ => er j) x1, z_LBc h6 h12 (fun j _ => er j) x2⟩
        show Z 56 (45 * w + j) = M 56 (45 * w + j)
        rw [Z56, z_SD_o (by omega), fr1 56 _ (by omega) (by omega) (by omega)]
    · unfold q_F8 at z
      by_cases ha : a < 64
      · rw [ZC a j ha, frC a j (by omega) (by omega) (by omega) (by omega) (by omega) (by omega)]
      · exact frZ a j (by omega) (by omega) (by omega) (by omega) (by omega) (by omega)
  · -- a flaw
    obtain ⟨g, N, w0, w1, w2, w3, w4, w5, w6, w7, w8⟩ := mdl M1 (e_w (fl - 10)) (fun a j ha => fr1 a j (by omega) (by omega) (by omega))
    rw [if_neg hf] at clw
    have frN : ∀ a j, ¬ (a = 2 ∧ 1 ≤ j ∧ j ≤ 6) → ¬ (a = 32 ∧ j = 0) → ¬ (33 ≤ a ∧ a ≤ 35) → ¬ (a = 64 ∧ (j ≤ 8 ∨ j = 30)) → ¬ (452 ≤ a ∧ a ≤ 531) → a ≠ 557 → (e_up N 64 3 fp) a j = M a j := fun a j x1 x2 x3 x6 x8 x9 => by
      by_cases e1 : a = 64
      · subst e1
        rw [u_c (by omega), w1 64 j (by omega) x8 x9, fr1 64 j x1 x2 x3]
      · rw [u_r e1, w1 a j (by omega) x8 x9, fr1 a j x1 x2 x3]
    refine ⟨e_w (fl - 10), M1, e_up N 64 3 fp, clw, ?_, ?_, ?_, n, m, t, wa, sk, wo, ow, fi, l, cw, cv, L, q_T_f (fun a j z => frN a j (by unfold q_F3 at z; omega) (by unfold q_F3 at z; omega) (by unfold q_F3 at z; omega) (by unfold q_F3 at z; omega) (by unfold q_F3 at z; omega) (by unfold q_F3 at z; omega)) hT, ?_, q_K2_f (fun a j z => frN a j (by unfold q_F2 at z; omega) (by unfold q_F2 at z; omega) (by unfold q_F2 at z; omega) (by unfold q_F2 at z; omega) (by unfold q_F2 at z; omega) (by unfold q_F2 at z; omega)) hK2, q_La_f (fun a j z => frN a j (by unfold q_F4 at z; omega) (by unfold q_F4 at z; omega) (by unfold q_F4 at z; omega) (by unfold q_F4 at z; omega) (by unfold q_F4 at z; omega) (by unfold q_F4 at z; omega)) hLa, q_K5_f h6 (fun a j z => frN a j (by unfold q_F5 at z; omega) (by unfold q_F5 at z; omega) (by unfold q_F5 at z; omega) (by unfold q_F5 at z; omega) (by unfold q_F5 at z; omega) (by unfold q_F5 at z; omega)) hK5, q_Li_f (fun a j z => frN a j (by unfold q_F6 at z; omega) (by unfold q_F6 at z; omega) (by unfold q_F6 at z; omega) (by unfold q_F6 at z; omega) (by unfold q_F6 at z; omega) (by unfold q_F6 at z; omega)) hLi, q_K7_f (fun a j z => frN a j (by unfold q_F7 at z; omega) (by unfold q_F7 at z; omega) (by unfold q_F7 at z; omega) (by unfold q_F7 at z; omega) (by unfold q_F7 at z; omega) (by unfold q_F7 at z; omega)) ⟨h, hh, kh2, kh3, kh4⟩, q_K8_f (fun a j z => frN a j (by unfold q_F8 at z; omega) (by unfold q_F8 at z; omega) (by unfold q_F8 at z; omega) (by unfold q_F8 at z; omega) (by unfold q_F8 at z; omega) (by unfold q_F8 at z; omega)) hK8⟩
    · rw [w8]
      unfold f_X11_work_101 f_X11_ends
      rw [w5, if_neg hf, w6, u_c (show (5 : Nat) ≠ 3 by decide), w5, f_bs]
    · rw [u_c (by decide)]; exact w2
    · rw [u_r (by decide)]; exact w4
    · have e1 : (e_up N 64 3 fp) 2 1 = 0 := by rw [u_r (by decide), w1 2 1 (by omega) (by omega) (by omega)]; exact M21
      have e2 : (e_up N 64 3 fp) 2 5 = fp := by rw [u_r (by decide), w1 2 5 (by omega) (by omega) (by omega)]; exact kfp
      have e3 : (e_up N 64 3 fp) 64 1 = 0 := by rw [u_c (by decide)]; exact w3
      unfold q_K1
      rw [e1, e2, e3, u_s, frN 66 0 (by omega) (by omega) (by omega) (by omega) (by omega) (by omega), frN 1 16 (by omega) (by omega) (by omega) (by omega) (by omega) (by omega), frN 66 1 (by omega) (by omega) (by omega) (by omega) (by omega) (by omega), frN 1 17 (by omega) (by omega) (by omega) (by omega) (by omega) (by omega), frN 64 37 (by omega) (by omega) (by omega) (by omega) (by omega) (by omega), frN 32 6 (by omega) (by omega) (by omega) (by omega) (by omega) (by omega)]
      exact ⟨by decide, by decide, rfl, rfl, hK1.2.2.2.2⟩
