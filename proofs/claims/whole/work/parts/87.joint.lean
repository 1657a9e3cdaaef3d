/-! TEXTS, 11: both sides read: numbers, signs, ends; flawed or not -/
theorem t_m_u {T : Nat → Int} {n a : Nat} {fl fp : Int} {M : e_M} {r k : Nat} {v : Int} (h1 : r ≠ 64) (h2 : r ≠ 65) (h : t_m T n a fl fp M) : t_m T n a fl fp (e_up M r k v) := ⟨by rw [u_r (Ne.symm h1)]; exact h.1, by rw [u_r (Ne.symm h1)]; exact h.2.1, by rw [u_r (Ne.symm h1)]; exact h.2.2.1, by rw [u_r (Ne.symm h1)]; exact h.2.2.2.1, fun j hj => by rw [u_r (Ne.symm h2)]; exact h.2.2.2.2 j hj⟩
theorem t_m_v {T : Nat → Int} {n a : Nat} {fl fp : Int} {M : e_M} {k : Nat} {v : Int} (h1 : 7 ≤ k) (h : t_m T n a fl fp M) : t_m T n a fl fp (e_up M 64 k v) := ⟨by rw [u_c (by omega)]; exact h.1, by rw [u_c (by omega)]; exact h.2.1, by rw [u_c (by omega)]; exact h.2.2.1, by rw [u_c (by omega)]; exact h.2.2.2.1, fun j hj => by rw [u_r (by decide)]; exact h.2.2.2.2 j hj⟩
theorem t_C_u {T : Nat → Int} {n a : Nat} {fl fp : Int} {M : e_M} {r k : Nat} {v : Int} (h1 : r ≠ 2) (h2 : r ≠ 3) (h : t_C T n a fl fp M) : t_C T n a fl fp (e_up M r k v) := ⟨by rw [u_r (Ne.symm h1)]; exact h.1, by rw [u_r (Ne.symm h1)]; exact h.2.1, by rw [u_r (Ne.symm h1)]; exact h.2.2.1, by rw [u_r (Ne.symm h1)]; exact h.2.2.2.1, fun j hj => by rw [u_r (Ne.symm h2)]; exact h.2.2.2.2 j hj⟩
theorem x_rn {T : Nat → Int} {e : Nat} {lo hi : Int} (hT : ∀ j, j < 600 → 0 ≤ T j ∧ T j ≤ 255) (he : e ≤ 600) (hh : hi < 100000) {a : Nat} {fl fp : Int} {M : e_M} (ha : a ≤ e) (h : t_C T e a fl fp M) : ∃ (v : Int) (a' : Nat) (fl' fp' : Int) (M' : e_M), (∀ f, 601 < f → f_X7_readNumber f lo hi M = some (v, M')) ∧ t_C T e a' fl' fp' M' ∧ a ≤ a' ∧ a' ≤ e ∧ t_fC M M' ∧ (fl' = 0 → fl = 0 ∧ fp' = fp ∧ lo ≤ v ∧ v ≤ hi ∧ a + 1 ≤ a' ∧ M' 2 6 = (t_s T e a : Int)) ∧ ∀ N, t_m T e a fl fp N → ∃ N', (∀ f, 601 < f → f_X11_number f lo hi N = some (if fl' = 0 then v else 0, N')) ∧ t_m T e a' fl' fp' N' ∧ t_fm N N' := by
  by_cases hf : fl = 0
  · subst hf
    obtain ⟨M', k1, k2, k3, k4⟩ := t_rn (lo := lo) (hi := hi) hT he ha h
    have hsp := t_s_p (T := T) (e - a) a rfl
    have hs := hsp.2.1 ha
    have hs1 := hsp.1
    have hna : t_s T e a ≤ t_na T e (t_s T e a) := by
      unfold t_na
      split
      · exact (t_de_r (T := T) _ _ rfl hs).1
      · exact Nat.le_refl _
    refine ⟨_, _, _, _, M', k1, k2, by omega, t_na_le hs, k4, fun hz => ⟨rfl, if_pos hz, ?_⟩, fun N hN => ?_⟩
    · rw [if_pos hz]
      refine ⟨(t_nf_v hz).1, (t_nf_v hz).2, ?_, k3 hz⟩
      have hd : t_s T e a < e ∧ 48 ≤ T (t_s T e a) ∧ T (t_s T e a) ≤ 57 := by
        refine Classical.byContradiction fun hc => ?_
        unfold t_nf at hz
        rw [if_neg hc] at hz
        exact absurd hz (by decide)
      have e1 : t_na T e (t_s T e a) = t_de T e (e - t_s T e a - 1) (t_s T e a + 1) := by
        unfold t_na
        rw [if_pos hd, show e - t_s T e a = (e - t_s T e a - 1) + 1 by omega, t_de_1 hd]
        rfl
      have := (t_de_r (T := T) (n := e) (e - t_s T e a - 1) (t_s T e a + 1) (by omega) (by omega)).1
      omega
    · obtain ⟨N', m1, m2, m3⟩ := t_mn (lo := lo) (hi := hi) hT he hh ha hN
      refine ⟨N', fun f hf => ?_, m2, m3⟩
      rw [m1 f hf]
      by_cases c : t_nf T e lo hi (t_s T e a) = 0
      · rw [if_pos c, if_pos c, if_pos c]
      · rw [if_neg c, if_neg c]
  · refine ⟨-1, a, fl, fp, M, fun f _ => t_rn2 hf h, h, Nat.le_refl _, ha, t_fC.rf, fun hz => absurd hz hf, fun N hN => ⟨N, fun f _ => ?_, hN, t_fm.rf⟩⟩
    rw [t_mn2 hf hN, if_neg hf]
theorem x_es {T : Nat → Int} {e : Nat} {c : Int} (hT : ∀ j, j < 600 → 0 ≤ T j ∧ T j ≤ 255) (he : e ≤ 600) (hc : c ≠ -1) {a : Nat} {fl fp : Int} {M : e_M} (ha : a ≤ e) (h : t_C T e a fl fp M) : ∃ (a' : Nat) (fl' fp' : Int) (M' : e_M), (∀ f, 601 < f → f_X7_expectSign f c M = some (0, M')) ∧ t_C T e a' fl' fp' M' ∧ a ≤ a' ∧ a' ≤ e ∧ t_fC M M' ∧ (fl' = 0 → fl = 0 ∧ fp' = fp ∧ a + 1 ≤ a') ∧ ∀ N, t_m T e a fl fp N → ∃ N', (∀ f, 601 < f → f_X11_sign f c N = some (0, N')) ∧ t_m T e a' fl' fp' N' ∧ t_fm N N' := by
  by_cases hf : fl = 0
  · subst hf
    obtain ⟨M', k1, k2, k4⟩ := t_es (c := c) hT he ha h
    have hsp := t_s_p (T := T) (e - a) a rfl
    have hs := hsp.2.1 ha
    have hs1 := hsp.1
    have hga : t_s T e a ≤ t_ga T e c (t_s T e a) := by
      unfold t_ga
      split <;> omega
    refine ⟨_, _, _, M', k1, k2, by omega, t_ga_le hc hs, k4, fun hz => ⟨rfl, if_pos hz, ?_⟩, fun N hN => ?_⟩
    · unfold t_gf at hz
      unfold t_ga
      by_cases d : t_b T e (t_s T e a) = c
      · rw [if_pos d]; omega
      · rw [if_neg d] at hz; exact absurd hz (by decide)
    · exact t_ms (c := c) hT he ha hN
  · exact ⟨a, fl, fp, M, fun f _ => t_es2 hf h, h, Nat.le_refl _, ha, t_fC.rf, fun hz => absurd hz hf, fun N hN => ⟨N, fun f _ => t_ms2 hf hN, hN, t_fm.rf⟩⟩
theorem x_w1 {T : Nat → Int} {e : Nat} (hT : ∀ j, j < 600 → 0 ≤ T j ∧ T j ≤ 255) (he : e ≤ 600) {a : Nat} {fp : Int} {M : e_M} (ha : a ≤ e) (h : t_C T e a 0 fp M) : ∃ (w : Int) (M' : e_M), (∀ f, 700 < f → f_X7_readWord_1 f M = some (w, M')) ∧ -1 ≤ w ∧ w ≤ 3 ∧ M' 2 6 = (t_s T e a : Int) ∧ t_fC M M' ∧ (w = -1 → t_C T e (t_s T e a) 1 (t_s T e a : Int) M') ∧ (w ≠ -1 → t_C T e (t_we T e (e - t_s T e a) (t_s T e a)) 0 fp M') ∧ ∀ N, t_m T e a 0 fp N → ∃ N', (∀ f, 601 < f → f_X11_kindHere f N = some (if w = 2 then 3 else if w = 3 then 2 else w, N')) ∧ t_m T e (t_s T e a) 0 fp N' ∧ t_fm N N' := by
  obtain ⟨M', k1, k2, k3, k4⟩ := t_rw hT he (t_i1 T) (fun s E M h3 hs hE f hf => t_iw1 hT h3 hE hs f (by omega)) ha h
  refine ⟨_, M', k1, ?_, ?_, k3, k4, fun hw => ?_, fun hw => ?_, fun N hN => ?_⟩
  · unfold t_i1; repeat' split
    all_goals decide
  · unfold t_i1; repeat' split
    all_goals decide
  · rw [if_pos hw, if_pos hw, if_pos hw] at k2; exact k2
  · rw [if_neg hw, if_neg hw, if_neg hw] at k2; exact k2
  · obtain ⟨N', n1, n2, n3⟩ := t_kind hT he ha hN
    refine ⟨N', fun f hf => ?_, n2, n3⟩
    rw [n1 f hf]
    unfold t_i1
    generalize t_s T e a = s
    generalize t_we T e (e - s) s = E
    have hno : t_mt 1 T s E 16 4 = true → t_mt 1 T s E 12 3 = true → False := fun h1 h2 => by
      have a1 := (of_decide_eq_true h1).1
      have a2 := (of_decide_eq_true h2).1
      omega
    by_cases c0 : t_mt 1 T s E 0 6 = true
    · rw [if_pos c0, if_pos c0]; rfl
    · rw [if_neg c0, if_neg c0]
      by_cases c1 : t_mt 1 T s E 7 4 = true
      · rw [if_pos c1, if_pos c1]; rfl
      · rw [if_neg c1, if_neg c1]
        by_cases c2 : t_mt 1 T s E 16 4 = true
        · rw [if_pos c2, if_neg (fun h => hno c2 h), if_pos c2]; rfl
        · rw [if_neg c2, if_neg c2]
          by_cases c3 : t_mt 1 T s E 12 3 = true
          · rw [if_pos c3, if_pos c3]; rfl
          · rw [if_neg c3, if_neg c3]; rfl
