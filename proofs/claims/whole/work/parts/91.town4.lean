/-! THE TOWN'S TEXT, 4: all its clauses -/
theorem x_tf {T : Nat → Int} {e a : Nat} {fl fp : Int} {M : e_M} {v2 : Int} (hf : fl ≠ 0) (h : t_C T e a fl fp M) {f : Nat} (h0 : 0 < f) : f_X8_readFrom_townDraft_17 f v2 M = some (0, M) := by
  obtain ⟨f', rfl⟩ : ∃ f', f = f' + 1 := ⟨f - 1, by omega⟩
  rw [f_X8_readFrom_townDraft_17, t_fd h, f_bs, if_neg hf, if_pos (show ¬ (1 : Int) = 0 by decide)]
  split <;> rfl
theorem x_tm {T : Nat → Int} {e : Nat} (hT : ∀ j, j < 600 → 0 ≤ T j ∧ T j ≤ 255) (he : e ≤ 600) {a : Nat} {fl fp : Int} {M : e_M} {p1 : Int} (hf : fl ≠ 0) (ha : a ≤ e) (h : t_m T e a fl fp M) : ∃ M', (∀ f, 602 < f → (f_b (f_X11_blanks f M) fun _ NN => f_X11_town_42 f p1 NN) = some (e_w (fl - 10), e_up M' 64 3 fp)) ∧ t_fm M M' := by
  obtain ⟨M1, k1, k2, k3⟩ := t_bl hT he (e - a) a fl fp M rfl ha h
  refine ⟨M1, fun f hf2 => ?_, k3⟩
  rw [k1 f (by omega), f_bs]
  obtain ⟨f', rfl⟩ : ∃ f', f = f' + 1 := ⟨f - 1, by omega⟩
  unfold f_X11_town_42 f_X11_ends
  rw [k2.2.2.1, if_pos hf, if_neg hf, k2.2.2.2.1, u_c (show (5 : Nat) ≠ 3 by decide), k2.2.2.1, f_bs]
def x_TS (T : Nat → Int) (e j c a n m t : Nat) (M : e_M) : Prop := ∃ (n' m' t' : Nat) (fl fp : Int) (M' : e_M), (∀ f, j + 720 < f → f_X8_readFrom_townDraft_17 f (c : Int) M = some (0, M')) ∧ M' 2 4 = fl ∧ M' 2 5 = fp ∧ (fl = 0 → fp = -1 ∧ x_B n' m' t' M') ∧ x_FC M M' ∧ ∀ (N : e_M) (p1 : Int), t_m T e (t_s T e a) 0 (-1) N → N 64 7 = (c : Int) → x_R n m t M N → ∃ N', (∀ f, j + 720 < f → ∃ g, 700 < g ∧ f_X11_town_42 f p1 N = if fl = 0 then (f_b (f_X11_beginsAnew g (e_up N' 64 3 (-1))) fun _ NN => some (NN 68 0, NN)) else some (e_w (fl - 10), e_up N' 64 3 fp)) ∧ x_FM N N' ∧ (fl = 0 → x_R n' m' t' M' N')
theorem x_tst {T : Nat → Int} {e j c a n m t : Nat} {M : e_M} (hT : ∀ j, j < 600 → 0 ≤ T j ∧ T j ≤ 255) (he : e ≤ 600) (hc : c + j = 60) (ha : a ≤ e) (hC : t_C T e a 0 (-1) M) (hB : x_B n m t M) (ih : c < 60 → ∀ (a n m t : Nat) (M : e_M), a ≤ e → t_C T e a 0 (-1) M → x_B n m t M → x_TS T e (j - 1) (c + 1) a n m t M) : x_TS T e j c a n m t M := by
  unfold x_TS
  obtain ⟨M1, a1, a2, a3⟩ := t_ae hT he ha hC
  have hsp := t_s_p (T := T) (e - a) a rfl
  have hse := hsp.2.1 ha
  have hss : t_s T e (t_s T e a) = t_s T e a := t_ss
  generalize t_s T e a = s at *
  have hB1 : x_B n m t M1 := x_B_f (fun r j _ _ => a3 r j (by omega)) hB
  by_cases c1 : s < e
  · obtain ⟨n', m', t', a', fl, fp, M', k1, k2, k3, k4, k5, k6⟩ := x_clz (c := c) hT he hse hss (by omega) a2 hB1
    have pre : ∀ f, 719 < f → f_X8_readFrom_townDraft_17 (f + 1) (c : Int) M = f_X8_readFrom_townDraft_17 f (e_w ((c : Int) + 1)) M' := fun f hf => by
      rw [f_X8_readFrom_townDraft_17, if_neg (show ¬ (60 : Int) < (c : Int) by omega), t_fd hC, f_bs, if_pos rfl, if_neg (show ¬ ¬ (0 : Int) = 0 by decide), a1 f (by omega), f_bs, if_pos c1, if_neg (show ¬ ¬ (0 : Int) = 0 by decide)]
      exact k1 f (by omega) (fun NN => f_X8_readFrom_townDraft_17 f (e_w ((c : Int) + 1)) NN)
    by_cases hf : fl = 0
    · subst hf
      obtain ⟨d, rfl, hB'⟩ := k4 rfl
      obtain ⟨n2, m2, t2, fl2, fp2, M2, i1, i2, i3, i4, i5, i6⟩ := ih d a' n' m' t' M' k3 k2 hB'
      refine ⟨n2, m2, t2, fl2, fp2, M2, fun f hf => ?_, i2, i3, i4, fun r j x1 x2 => by rw [i5 r j x1 x2, k5 r j x1 x2, a3 r j x1], fun N p1 hN h7 hR => ?_⟩
      · obtain ⟨f', rfl⟩ : ∃ f', f = f' + 1 := ⟨f - 1, by omega⟩
        rw [pre f' (by omega), y_ei (by omega)]
        exact i1 f' (by omega)
      · obtain ⟨b, N1, o1, o2, o3, o4, o5⟩ := k6 N hN h7 (x_R_f (fun r j _ _ => a3 r j (by omega)) (fun _ _ _ => rfl) hB.1 hB.2.2.1 hR)
        obtain ⟨rfl, o6, o7⟩ := o4 rfl
        obtain ⟨N2, w1, w2, w3⟩ := t_bl hT he (e - b) b 0 (-1) N1 rfl o2 o3
        obtain ⟨N', v1, v2, v3⟩ := i6 N2 p1 w2 (by rw [w3 64 7 (by omega)]; exact o7) (x_R_f (fun _ _ _ _ => rfl) (fun r j h => w3 r j (by omega)) hB'.1 hB'.2.2.1 o6)
        refine ⟨N', fun f hf => ?_, fun r j x1 x2 => by rw [v2 r j x1 x2, w3 r j (by omega), o5 r j x1 x2], v3⟩
        obtain ⟨f', rfl⟩ : ∃ f', f = f' + 1 := ⟨f - 1, by omega⟩
        obtain ⟨g, g1, g2⟩ := v1 f' (by omega)
        refine ⟨g, g1, ?_⟩
        rw [f_X11_town_42, hN.2.2.1, if_neg (show ¬ ¬ (0 : Int) = 0 by decide), hN.1, hN.2.1, if_neg (show ¬ (e : Int) ≤ (s : Int) by omega), o1 f' (by omega), f_bs, w1 f' (by omega), f_bs]
        exact g2
    · refine ⟨0, 0, 0, fl, fp, M', fun f hf2 => ?_, k2.2.2.1, k2.2.2.2.1, fun h => absurd h hf, fun r j x1 x2 => by rw [k5 r j x1 x2, a3 r j x1], fun N p1 hN h7 hR => ?_⟩
      · obtain ⟨f', rfl⟩ : ∃ f', f = f' + 1 := ⟨f - 1, by omega⟩
        rw [pre f' (by omega), x_tf hf k2 (by omega)]
      · obtain ⟨b, N1, o1, o2, o3, o4, o5⟩ := k6 N hN h7 (x_R_f (fun r j _ _ => a3 r j (by omega)) (fun _ _ _ => rfl) hB.1 hB.2.2.1 hR)
        obtain ⟨N', w1, w2⟩ := x_tm (p1 := p1) hT he hf o2 o3
        refine ⟨N', fun f hf2 => ?_, fun r j x1 x2 => by rw [w2 r j (by omega), o5 r j x1 x2], fun h => absurd h hf⟩
        obtain ⟨f', rfl⟩ : ∃ f', f = f' + 1 := ⟨f - 1, by omega⟩
        refine ⟨701, by omega, ?_⟩
        rw [f_X11_town_42, hN.2.2.1, if_neg (show ¬ ¬ (0 : Int) = 0 by decide), hN.1, hN.2.1, if_neg (show ¬ (e : Int) ≤ (s : Int) by omega), o1 f' (by omega), f_bs, if_neg hf]
        exact w1 f' (by omega)
  · refine ⟨n, m, t, 0, -1, M1, fun f hf => ?_, a2.2.2.1, a2.2.2.2.1, fun _ => ⟨rfl, hB1⟩, fun r j x1 _ => a3 r j x1, fun N p1 hN h7 hR => ?_⟩
    · obtain ⟨f', rfl⟩ : ∃ f', f = f' + 1 := ⟨f - 1, by omega⟩
      rw [f_X8_readFrom_townDraft_17, if_neg (show ¬ (60 : Int) < (c : Int) by omega), t_fd hC, f_bs, if_pos rfl, if_neg (show ¬ ¬ (0 : Int) = 0 by decide), a1 f' (by omega), f_bs, if_neg c1, if_pos (show ¬ (1 : Int) = 0 by decide)]
    · refine ⟨N, fun f hf => ?_, fun _ _ _ _ => rfl, fun _ => x_R_f (fun r j _ _ => a3 r j (by omega)) (fun _ _ _ => rfl) hB.1 hB.2.2.1 hR⟩
      obtain ⟨f', rfl⟩ : ∃ f', f = f' + 1 := ⟨f - 1, by omega⟩
      refine ⟨f', by omega, ?_⟩
      rw [f_X11_town_42, hN.2.2.1, if_neg (show ¬ ¬ (0 : Int) = 0 by decide), hN.1, hN.2.1, if_pos (show (e : Int) ≤ (s : Int) by omega), if_pos rfl, if_pos rfl]
theorem x_twn {T : Nat → Int} {e : Nat} (hT : ∀ j, j < 600 → 0 ≤ T j ∧ T j ≤ 255) (he : e ≤ 600) : ∀ (j c a n m t : Nat) (M : e_M), c + j = 60 → a ≤ e → t_C T e a 0 (-1) M → x_B n m t M → x_TS T e j c a n m t M := by
  intro j
  induction j with
  | zero => intro c a n m t M hc ha hC hB; exact x_tst hT he hc ha hC hB (fun h => absurd h (by omega))
  | succ j ih => intro c a n m t M hc ha hC hB; exact x_tst hT he hc ha hC hB (fun _ a n m t M h1 h2 h3 => ih (c + 1) a n m t M (by omega) h1 h2 h3)
