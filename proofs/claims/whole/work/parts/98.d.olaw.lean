/-! LAW -/
theorem l_hg {c w v : Nat → Int} {l : Nat} (h : ∀ k, k < l → q_cd (c k) (w k) (v k)) : ∀ k, k ≤ l → q_hg w k = x_h c k
  | 0, _ => rfl
  | k + 1, hk => by
    have ih := l_hg h k (by omega)
    have hq := h k (by omega)
    have hi : w k < 2 ↔ c k < 2000 := by unfold q_cd at hq; omega
    show (if w k < 2 then q_hg w k + 1 else q_hg w k - 1) = (if c k < 2000 then x_h c k + 1 else x_h c k - 1)
    rw [ih]
    by_cases d : w k < 2
    · rw [if_pos d, if_pos (hi.mp d)]
    · rw [if_neg d, if_neg (fun x => d (hi.mpr x))]
theorem o_law {F : Nat} (hF : 2000 < F) (p : Int) : q_o2 (f_X10_law F p) (f_X11_law F p) k_c1 := by
  intro M k
  have k' := k
  obtain ⟨n, m, t, wa, sk, wo, ow, fi, l, cw, cv, L, hT, hK1, hK2, hLa, hK5, hLi, hK7, hK8⟩ := k'
  have h6 := hT.1
  have u1 := hK1.1
  have u2 := hK1.2.1
  have u3 := hK1.2.2.1
  by_cases hp : ¬ (0 ≤ p ∧ p ≤ min (M 2 1) 150)
  · refine q_ref1 (b := 0) (c := 1) k rfl (by decide) ?_ ?_
    · unfold f_X10_law f_X10_needText
      rw [r_nw, if_neg hp, f_tr, f_tr]
    · unfold f_X11_law f_X11_law_30
      rw [u_c (show (1 : Nat) ≠ 0 by decide), u_r (show (64 : Nat) ≠ 1 by decide), u3, r_in, f_bs]
      by_cases h1 : 0 ≤ p ∧ p ≤ M 2 1
      · rw [if_pos h1, if_neg (by decide), if_neg (show ¬ p ≤ 150 by omega), r_bada rfl (by decide), f_bs, if_neg (by decide)]
        rfl
      · rw [if_neg h1, if_pos rfl, r_bada rfl (by decide), f_bs, if_neg (by decide)]
        rfl
  replace hp := Classical.not_not.mp hp
  obtain ⟨e, he, rfl⟩ := q_nat (n := 151) (p := p) (by omega)
  obtain ⟨b1, b2, hTT⟩ := t_beg (e := e) hK2
  have b3 : l_S (fun j => M 65 j) e 0 0 0 (-1) (e_up (e_up (e_up (e_up (e_up (e_up M 2 2 (e : Int)) 2 1 0) 2 3 0) 2 4 0) 2 5 (-1)) 24 1 0) := ⟨Nat.zero_le _, t_C_u (by decide) (by decide) b2, by rw [u_s]; decide, fun _ => ⟨rfl, Nat.le_refl _, u_s _ _ _ _, fun k hk => absurd hk (by omega)⟩⟩
  obtain ⟨l', fl, fp, M1, k1, kfl, kfp, kc, kF, kR⟩ := l_read (F := F) hF hTT (by omega : e ≤ 150) b3
  have fr1 : ∀ a j, ¬ (a = 2 ∧ 1 ≤ j ∧ j ≤ 6) → ¬ (a = 24 ∧ j = 1) → a ≠ 25 → M1 a j = M a j := fun a j x1 x2 x3 => by
    rw [kF a j (by omega) x2 x3]
    by_cases e2 : a = 2
    · subst e2
      rw [u_r (by decide), u_c (by omega), u_c (by omega), u_c (by omega), u_c (by omega), u_c (by omega)]
    · by_cases e3 : a = 24
      · subst e3
        rw [u_c (by omega), u_r e2, u_r e2, u_r e2, u_r e2, u_r e2]
      · rw [u_r e3, u_r e2, u_r e2, u_r e2, u_r e2, u_r e2]
  have M21 : M1 2 1 = 0 := by rw [kF 2 1 (by omega) (by omega) (by omega)]; rfl
  have cls : f_X10_law F (e : Int) M = (if fl = 0 then some (.inl 1, e_cp (e_up M1 20 1 (M1 24 1)) 25 0 21 0 150) else some (.inl (e_w (fl - 10)), M1)) := by
    unfold f_X10_law f_X10_needText f_X2_readFrom_lawDraft
    rw [r_nw, if_pos hp, f_tl, f_tl, b1, f_bs]
    refine Eq.trans (congrArg (fun w => f_b w _) k1) ?_
    unfold f_X7_flawed f_X7_flawAnswer f_X2_copyFrom_law
    rw [f_bs, kfl]
    by_cases hf : fl = 0
    · rw [if_pos hf, f_bs, if_pos rfl, f_bs, if_pos hf]
    · rw [if_neg hf, f_bs, if_neg (by decide), kfl, f_bs, if_neg hf]
  have mdl : ∀ (A : e_M) (v : Int), (∀ a j, a ≠ 20 → a ≠ 21 → A a j = M1 a j) → ∃ N, (∀ a j, ¬ (a = 64 ∧ (j ≤ 2 ∨ (4 ≤ j ∧ j ≤ 8) ∨ j = 22)) → ¬ (275 ≤ a ∧ a ≤ 434) → a ≠ 557 → N a j = A a j) ∧ N 64 0 = 0 ∧ N 64 1 = 0 ∧ N 557 0 = v ∧ (fl = 0 → l_R l' M1 N) ∧ f_X11_law F (e : Int) (e_up A 557 0 v) = if fl = 0 then (f_b (f_X11_lays_m_law F (l' : Int) (e_up (e_up N 64 3 (-1)) 64 21 (l' : Int))) fun _ NN => some (1, NN)) else some (e_w (fl - 10), e_up N 64 3 fp) := by
    intro A v hA
    have A65 : ∀ j, j < 600 → (e_up (e_up A 557 0 v) 64 0 0) 65 j = (fun j => M 65 j) j := fun j hj => by
      rw [u_r (by decide), u_r (by decide), hA 65 j (by decide) (by decide), fr1 65 j (by omega) (by omega) (by omega)]
    obtain ⟨N1, s1, s2, s3, s4, s5, s6⟩ := t_str (e := e) hTT (by omega) A65
    have hN2 : l_N (fun j => M 65 j) e 0 0 0 0 (-1) (e_up (e_up (e_up (e_up (e_up (e_up M 2 2 (e : Int)) 2 1 0) 2 3 0) 2 4 0) 2 5 (-1)) 24 1 0) (e_up N1 64 22 0) := ⟨_, (t_s_p (T := fun j => M 65 j) (e - 0) 0 rfl).2.1 (Nat.zero_le _), t_m_v (by decide) s2, fun _ => ⟨t_ss, by rw [u_c (by decide)]; exact s5, u_s _ _ _ _, fun k hk => absurd hk (by omega)⟩⟩
    obtain ⟨N, v2, v3, v5⟩ := kR _ hN2
    have fN : ∀ a j, ¬ (a = 64 ∧ (j = 1 ∨ j = 2 ∨ (4 ≤ j ∧ j ≤ 8) ∨ j = 22)) → ¬ (275 ≤ a ∧ a ≤ 434) → N a j = (e_up (e_up A 557 0 v) 64 0 0) a j := fun a j x1 x2 => by
      rw [v2 a j (by omega) x2]
      by_cases e1 : a = 64
      · subst e1
        rw [u_c (by omega), s6 64 j (by omega)]
      · rw [u_r e1, s6 a j (by omega)]
    refine ⟨N, fun a j x1 x2 x3 => ?_, ?_, ?_, ?_, v3, ?_⟩
    · rw [fN a j (by omega) x2]
      by_cases e1 : a = 64
      · subst e1
        rw [u_c (by omega), u_r x3]
      · rw [u_r e1, u_r x3]
    · rw [fN 64 0 (by omega) (by omega), u_s]
    · rw [v2 64 1 (by omega) (by omega), u_c (by decide)]; exact s3
    · rw [fN 557 0 (by omega) (by omega), u_r (by decide), u_s]
    · have e1 : (e_up (e_up A 557 0 v) 64 0 0) 64 1 = M 2 1 := by rw [u_c (by decide), u_r (by decide), hA 64 1 (by decide) (by decide), fr1 64 1 (by omega) (by omega) (by omega)]; exact u3
      unfold f_X11_law f_X11_law_30
      rw [e1, r_in, f_bs, if_pos (show 0 ≤ (e : Int) ∧ (e : Int) ≤ M 2 1 by omega), if_neg (by decide), if_pos (show (e : Int) ≤ 150 by omega), r_bad0 rfl, f_bs, if_pos rfl, s1 F (by omega), f_bs]
      exact v5
  left
  by_cases hf : fl = 0
  · obtain ⟨kp, hl', hc1, hc2⟩ := kc hf
    obtain ⟨N, w1, w2, w3, w4, w5, w7⟩ := mdl (e_cp (e_up M1 20 1 (M1 24 1)) 25 0 21 0 150) 1 (fun a j x1 x2 => by rw [cp_r x2, u_r x1])
    obtain ⟨r1, r2⟩ := w5 hf
    obtain ⟨Z, y1, y2, y3⟩ := z_lyl (M := e_up (e_up N 64 3 (-1)) 64 21 (l' : Int)) hl'
    rw [if_pos hf] at cls w7
    have ZC : ∀ a j, a < 64 → Z a j = (e_cp (e_up M1 20 1 (M1 24 1)) 25 0 21 0 150) a j := fun a j h => by rw [y3 a j (by omega), u_r (by omega), u_r (by omega), w1 a j (by omega) (by omega) (by omega)]
    have frN : ∀ a j, ¬ (a = 2 ∧ 1 ≤ j ∧ j ≤ 6) → ¬ (a = 24 ∧ j = 1) → a ≠ 25 → a ≠ 20 → a ≠ 21 → ¬ (a = 64 ∧ (j ≤ 8 ∨ j = 21 ∨ j = 22)) → ¬ (114 ≤ a ∧ a ≤ 273) → ¬ (275 ≤ a ∧ a ≤ 434) → a ≠ 557 → Z a j = M a j := fun a j x1 x2 x3 x4 x5 x6 x7 x8 x9 => by
      rw [y3 a j x7]
      by_cases e1 : a = 64
      · subst e1
        rw [u_c (by omega), u_c (by omega), w1 64 j (by omega) x8 x9, cp_r x5, u_r x4, fr1 64 j x1 x2 x3]
      · rw [u_r e1, u_r e1, w1 a j (by omega) x8 x9, cp_r x5, u_r x4, fr1 a j x1 x2 x3]
    have row : ∀ k, k < l' → Z (114 + k) 0 = N (275 + k) 0 ∧ Z (114 + k) 1 = N (275 + k) 1 := fun k hk => by
      rw [(y2 k hk).1, (y2 k hk).2, u_r (by omega), u_r (by omega), u_r (by omega), u_r (by omega)]; exact ⟨rfl, rfl⟩
    have Z21 : ∀ k, k < 150 → Z 21 k = M1 25 k := fun k hk => by rw [ZC 21 k (by omega), cp_i (by omega), u_r (by decide), show 0 + (k - 0) = k by omega]
    have hq : ∀ k, k < l' → q_cd (M1 25 k) (Z (114 + k) 0) (Z (114 + k) 1) := fun k hk => by rw [(row k hk).1, (row k hk).2]; exact r2 k hk
    refine ⟨1, _, Z, cls, ?_, ?_, ?_, n, m, t, wa, sk, wo, ow, fi, l', fun k => Z (114 + k) 0, fun k => Z (114 + k) 1, L, q_T_f (fun a j z => frN a j (by unfold q_F3 at z; omega) (by unfold q_F3 at z; omega) (by unfold q_F3 at z; omega) (by unfold q_F3 at z; omega) (by unfold q_F3 at z; omega) (by unfold q_F3 at z; omega) (by unfold q_F3 at z; omega) (by unfold q_F3 at z; omega) (by unfold q_F3 at z; omega)) hT, ?_, q_K2_f (fun a j z => frN a j (by unfold q_F2 at z; omega) (by unfold q_F2 at z; omega) (by unfold q_F2 at z; omega) (by unfold q_F2 at z; omega) (by unfold q_F2 at z; omega) (by unfold q_F2 at z; omega) (by unfold q_F2 at z; omega) (by unfold q_F2 at z; omega) (by unfold q_F2 at z; omega)) hK2, ⟨hl', ?_, ?_, fun k hk => ⟨rfl, rfl, ?_, fun h2 => ?_⟩⟩, q_K5_f h6 (fun a j z => frN a j (by unfold q_F5 at z; omega) (by unfold q_F5 at z; omega) (by unfold q_F5 at z; omega) (by unfold q_F5 at z; omega) (by unfold q_F5 at z; omega) (by unfold q_F5 at z; omega) (by unfold q_F5 at z; omega) (by unfold q_F5 at z; omega) (by unfold q_F5 at z; omega)) hK5, q_Li_f (fun a j z => frN a j (by unfold q_F6 at z; omega) (by unfold q_F6 at z; omega) (by unfold q_F6 at z; omega) (by unfold q_F6 at z; omega) (by unfold q_F6 at z; omega) (by unfold q_F6 at z; omega) (by unfold q_F6 at z; omega) (by unfold q_F6 at z; omega) (by unfold q_F6 at z; omega)) hLi, q_K7_f (fun a j z => frN a j (by unfold q_F7 at z; omega) (by unfold q_F7 at z; omega) (by unfold q_F7 at z; omega) (by unfold q_F7 at z; omega) (by unfold q_F7 at z; omega) (by unfold q_F7 at z; omega) (by unfold q_F7 at z; omega) (by unfold q_F7 at z; omega) (by unfold q_F7 at z; omega)) hK7, q_K8_f (fun a j z => frN a j (by unfold q_F8 at z; omega) (by unfold q_F8 at z; omega) (by unfold q_F8 at z; omega) (by unfold q_F8 at z; omega) (by unfold q_F8 at z; omega) (by unfold q_F8 at z; omega) (by unfold q_F8 at z; omega) (by unfold q_F8 at z; omega) (by unfold q_F8 at z; omega)) hK8⟩
    · rw [w7, y1 F (by omega), f_bs]
    · rw [y3 64 0 (by omega), u_c (by decide), u_c (by decide)]; exact w2
    · rw [y3 557 0 (by omega), u_r (by decide), u_r (by decide)]; exact w4
    · have e1 : Z 2 1 = 0 := by rw [ZC 2 1 (by omega), cp_r (by decide), u_r (by decide)]; exact M21
      have e2 : Z 2 5 = -1 := by rw [ZC 2 5 (by omega), cp_r (by decide), u_r (by decide), kfp]; exact kp
      have e3 : Z 64 1 = 0 := by rw [y3 64 1 (by omega), u_c (by decide), u_c (by decide)]; exact w3
      have e4 : Z 64 3 = -1 := by rw [y3 64 3 (by omega), u_c (by decide), u_s]
      unfold q_K1
      rw [e1, e2, e3, e4, frN 66 0 (by omega) (by omega) (by omega) (by omega) (by omega) (by omega) (by omega) (by omega) (by omega), frN 1 16 (by omega) (by omega) (by omega) (by omega) (by omega) (by omega) (by omega) (by omega) (by omega), frN 66 1 (by omega) (by omega) (by omega) (by omega) (by omega) (by omega) (by omega) (by omega) (by omega), frN 1 17 (by omega) (by omega) (by omega) (by omega) (by omega) (by omega) (by omega) (by omega) (by omega), frN 64 37 (by omega) (by omega) (by omega) (by omega) (by omega) (by omega) (by omega) (by omega) (by omega), frN 32 6 (by omega) (by omega) (by omega) (by omega) (by omega) (by omega) (by omega) (by omega) (by omega)]
      exact ⟨by decide, by decide, rfl, rfl, hK1.2.2.2.2⟩
    · rw [ZC 20 1 (by omega), cp_r (by decide), u_s]; exact hc1
    · rw [y3 64 21 (by omega), u_s]
    · rw [Z21 k (by omega)]; exact hq k hk
    · show 2 ≤ q_hg (fun k => Z (114 + k) 0) k
      rw [l_hg (c := M1 25) (w := fun k => Z (114 + k) 0) (v := fun k => Z (114 + k) 1) hq k (by omega)]
      refine hc2 k hk ?_
      have h3 : 2 ≤ Z (114 + k) 0 := h2
      have := hq k hk
      unfold q_cd at this
      omega
  · obtain ⟨N, w1, w2, w3, w4, w5, w7⟩ := mdl M1 (e_w (fl - 10)) (fun a j _ _ => rfl)
    rw [if_neg hf] at cls w7
    have frN : ∀ a j, ¬ (a = 2 ∧ 1 ≤ j ∧ j ≤ 6) → ¬ (a = 24 ∧ j = 1) → a ≠ 25 → ¬ (a = 64 ∧ (j ≤ 8 ∨ j = 22)) → ¬ (275 ≤ a ∧ a ≤ 434) → a ≠ 557 → (e_up N 64 3 fp) a j = M a j := fun a j x1 x2 x3 x6 x8 x9 => by
      by_cases e1 : a = 64
      · subst e1
        rw [u_c (by omega), w1 64 j (by omega) x8 x9, fr1 64 j x1 x2 x3]
      · rw [u_r e1, w1 a j (by omega) x8 x9, fr1 a j x1 x2 x3]
    refine ⟨e_w (fl - 10), M1, e_up N 64 3 fp, cls, w7, ?_, ?_, n, m, t, wa, sk, wo, ow, fi, l, cw, cv, L, q_T_f (fun a j z => frN a j (by unfold q_F3 at z; omega) (by unfold q_F3 at z; omega) (by unfold q_F3 at z; omega) (by unfold q_F3 at z; omega) (by unfold q_F3 at z; omega) (by unfold q_F3 at z; omega)) hT, ?_, q_K2_f (fun a j z => frN a j (by unfold q_F2 at z; omega) (by unfold q_F2 at z; omega) (by unfold q_F2 at z; omega) (by unfold q_F2 at z; omega) (by unfold q_F2 at z; omega) (by unfold q_F2 at z; omega)) hK2, q_La_f (fun a j z => frN a j (by unfold q_F4 at z; omega) (by unfold q_F4 at z; omega) (by unfold q_F4 at z; omega) (by unfold q_F4 at z; omega) (by unfold q_F4 at z; omega) (by unfold q_F4 at z; omega)) hLa, q_K5_f h6 (fun a j z => frN a j (by unfold q_F5 at z; omega) (by unfold q_F5 at z; omega) (by unfold q_F5 at z; omega) (by unfold q_F5 at z; omega) (by unfold q_F5 at z; omega) (by unfold q_F5 at z; omega)) hK5, q_Li_f (fun a j z => frN a j (by unfold q_F6 at z; omega) (by unfold q_F6 at z; omega) (by unfold q_F6 at z; omega) (by unfold q_F6 at z; omega) (by unfold q_F6 at z; omega) (by unfold q_F6 at z; omega)) hLi, q_K7_f (fun a j z => frN a j (by unfold q_F7 at z; omega) (by unfold q_F7 at z; omega) (by unfold q_F7 at z; omega) (by unfold q_F7 at z; omega) (by unfold q_F7 at z; omega) (by unfold q_F7 at z; omega)) hK7, q_K8_f (fun a j z => frN a j (by unfold q_F8 at z; omega) (by unfold q_F8 at z; omega) (by unfold q_F8 at z; omega) (by unfold q_F8 at z; omega) (by unfold q_F8 at z; omega) (by unfold q_F8 at z; omega)) hK8⟩
    · rw [u_c (by decide)]; exact w2
    · rw [u_r (by decide)]; exact w4
    · have e1 : (e_up N 64 3 fp) 2 1 = 0 := by rw [u_r (by decide), w1 2 1 (by omega) (by omega) (by omega)]; exact M21
      have e2 : (e_up N 64 3 fp) 2 5 = fp := by rw [u_r (by decide), w1 2 5 (by omega) (by omega) (by omega)]; exact kfp
      have e3 : (e_up N 64 3 fp) 64 1 = 0 := by rw [u_c (by decide)]; exact w3
      unfold q_K1
      rw [e1, e2, e3, u_s, frN 66 0 (by omega) (by omega) (by omega) (by omega) (by omega) (by omega), frN 1 16 (by omega) (by omega) (by omega) (by omega) (by omega) (by omega), frN 66 1 (by omega) (by omega) (by omega) (by omega) (by omega) (by omega), frN 1 17 (by omega) (by omega) (by omega) (by omega) (by omega) (by omega), frN 64 37 (by omega) (by omega) (by omega) (by omega) (by omega) (by omega), frN 32 6 (by omega) (by omega) (by omega) (by omega) (by omega) (by omega)]
      exact ⟨by decide, by decide, rfl, rfl, hK1.2.2.2.2⟩
