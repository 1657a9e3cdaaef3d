/-! TEXTS, 8: words, the model's side -/
theorem t_cw_inj {T U : Nat → Int} {s u : Nat} : ∀ k k' : Nat, (∀ i, i < k → 97 ≤ T (s + i) ∧ T (s + i) ≤ 122) → (∀ i, i < k' → 97 ≤ U (u + i) ∧ U (u + i) ≤ 122) → t_cw T s k = t_cw U u k' → k = k' ∧ ∀ i, i < k → T (s + i) = U (u + i) := by
  intro k
  induction k with
  | zero =>
    intro k' h1 h2 h
    cases k' with
    | zero => exact ⟨rfl, fun i hi => absurd hi (by omega)⟩
    | succ k' =>
      have g1 := t_cw_r (T := U) (s := u) k' (fun i hi => h2 i (by omega))
      have g2 := h2 k' (by omega)
      have h' : (0 : Int) = 27 * t_cw U u k' + (U (u + k') - 96) := h
      exfalso; omega
  | succ k ih =>
    intro k' h1 h2 h
    have f1 := t_cw_r (T := T) (s := s) k (fun i hi => h1 i (by omega))
    have f2 := h1 k (by omega)
    cases k' with
    | zero =>
      have h' : 27 * t_cw T s k + (T (s + k) - 96) = (0 : Int) := h
      exfalso; omega
    | succ k' =>
      have g1 := t_cw_r (T := U) (s := u) k' (fun i hi => h2 i (by omega))
      have g2 := h2 k' (by omega)
      have h' : 27 * t_cw T s k + (T (s + k) - 96) = 27 * t_cw U u k' + (U (u + k') - 96) := h
      obtain ⟨e1, e2⟩ := ih k' (fun i hi => h1 i (by omega)) (fun i hi => h2 i (by omega)) (by omega)
      subst e1
      refine ⟨rfl, fun i hi => ?_⟩
      by_cases e : i = k
      · rw [e]; omega
      · exact e2 i (by omega)
theorem t_skw {T : Nat → Int} {n : Nat} (hT : ∀ j, j < 600 → 0 ≤ T j ∧ T j ≤ 255) (hn : n ≤ 600) {fl fp : Int} : ∀ (j a : Nat) (M : e_M), n - a = j → a ≤ n → t_m T n a fl fp M → ∃ M', (∀ f, j < f → f_X11_skipWord f M = some (0, M')) ∧ t_m T n (t_we T n j a) fl fp M' ∧ t_fm M M' := by
  intro j
  have stop : ∀ (a : Nat) (M : e_M), a ≤ n → t_m T n a fl fp M → ¬ (a < n ∧ 97 ≤ T a ∧ T a ≤ 122) → ∀ f, f_X11_skipWord_0 (f + 1) M = some (0, M) := by
    intro a M ha h c f
    have hnb : ¬ (97 ≤ t_b T n a ∧ t_b T n a ≤ 122) := by
      unfold t_b
      split <;> omega
    rw [f_X11_skipWord_0, h.2.1, t_by hT hn ha h, f_bs, t_sml, f_bs, if_neg hnb, if_pos rfl]
  induction j with
  | zero =>
    intro a M hj ha h
    refine ⟨M, fun f hf => ?_, h, t_fm.rf⟩
    obtain ⟨f', rfl⟩ : ∃ f', f = f' + 1 := ⟨f - 1, by omega⟩
    exact stop a M ha h (by omega) f'
  | succ j ih =>
    intro a M hj ha h
    by_cases c : a < n ∧ 97 ≤ T a ∧ T a ≤ 122
    · have hb : t_b T n a = T a := by unfold t_b; rw [if_pos c.1]
      obtain ⟨k1, k2⟩ := t_m_at (b := a + 1) h
      obtain ⟨M', l1, l2, l3⟩ := ih (a + 1) _ (by omega) (by omega) k1
      rw [t_we_1 c]
      refine ⟨M', fun f hf => ?_, l2, k2.tr l3⟩
      obtain ⟨f', rfl⟩ : ∃ f', f = f' + 1 := ⟨f - 1, by omega⟩
      show f_X11_skipWord_0 (f' + 1) M = _
      rw [f_X11_skipWord_0, h.2.1, t_by hT hn ha h, f_bs, t_sml, f_bs, hb, if_pos c.2, if_neg (show ¬ (1 : Int) = 0 by decide), h.2.1, y_ei (by omega)]
      exact l1 f' (by omega)
    · rw [t_we_0 c]
      refine ⟨M, fun f hf => ?_, h, t_fm.rf⟩
      obtain ⟨f', rfl⟩ : ∃ f', f = f' + 1 := ⟨f - 1, by omega⟩
      exact stop a M ha h c f'
