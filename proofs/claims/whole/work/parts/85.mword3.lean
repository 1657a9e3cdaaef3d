/-! TEXTS, 9: a word is looked for by the model -/
theorem t_we_l {T : Nat → Int} {n : Nat} : ∀ (j a : Nat), n - a = j → ∀ i, a ≤ i → i < t_we T n j a → 97 ≤ T i ∧ T i ≤ 122
  | 0, a, _, i, h1, h2 => absurd h2 (by show ¬ i < a; omega)
  | j + 1, a, h, i, h1, h2 => by
    by_cases c : a < n ∧ 97 ≤ T a ∧ T a ≤ 122
    · rw [t_we_1 c] at h2
      by_cases e : i = a
      · rw [e]; exact c.2
      · exact t_we_l j (a + 1) (by omega) i (by omega) h2
    · rw [t_we_0 c] at h2
      exact absurd h2 (by omega)
theorem t_isw {T : Nat → Int} {n a j i len : Nat} {fp V c1 c2 c3 c4 c5 c6 : Int} {M : e_M} (hT : ∀ j, j < 600 → 0 ≤ T j ∧ T j ≤ 255) (hn : n ≤ 600) (ha : a ≤ n) (h : t_m T n a 0 fp M) (hl : len ≤ 6) (hw : ∀ k, k < len → 97 ≤ e_sg j (i + k) ∧ e_sg j (i + k) ≤ 122) (hV : t_cw (e_sg j) i len = V) (h6 : ∀ N : e_M, f_X11_six c1 c2 c3 c4 c5 c6 N = some (V, N)) : ∃ M', (∀ f, 601 < f → f_X11_isWord f c1 c2 c3 c4 c5 c6 M = some (if t_mt j T (t_s T n a) (t_we T n (n - t_s T n a) (t_s T n a)) i len = true then 1 else 0, M')) ∧ t_m T n (t_s T n a) 0 fp M' ∧ t_fm M M' := by
  obtain ⟨M1, k1, k2, k3⟩ := t_bl hT hn (n - a) a 0 fp M rfl ha h
  have hsn := (t_s_p (T := T) (n - a) a rfl).2.1 ha
  generalize t_s T n a = s at *
  have hE := t_we_r (T := T) (n := n) (n - s) s rfl hsn
  have hLt := t_we_l (T := T) (n := n) (n - s) s rfl
  have hwh := t_wh hT hn k2 (n - s) 0 rfl hsn (fun i hi => absurd hi (by omega))
  rw [Nat.add_zero] at hwh
  generalize t_we T n (n - s) s = E at *
  have hwv := t_cw_r (T := e_sg j) (s := i) len hw
  refine ⟨M1, fun f hf => ?_, k2, k3⟩
  have hwf := hwh f (by omega)
  have e0 : t_cw T s (min 0 6) = 0 := rfl
  rw [e0] at hwf
  unfold f_X11_isWord f_X11_wordHere
  rw [h.2.2.1, if_neg (show ¬ ¬ (0 : Int) = 0 by decide), k1 f (by omega), f_bs]
  refine Eq.trans (congrArg (fun w => f_b w _) hwf) ?_
  rw [f_bs, h6, f_bs]
  by_cases c : t_mt j T s E i len = true
  · obtain ⟨d1, d2⟩ := of_decide_eq_true c
    have ec : t_cw T s (E - s) = V := by
      rw [← hV, show E - s = len by omega]
      have : ∀ k, k ≤ len → t_cw T s k = t_cw (e_sg j) i k := by
        intro k
        induction k with
        | zero => intro _; rfl
        | succ k ih =>
          intro hk
          show 27 * t_cw T s k + (T (s + k) - 96) = 27 * t_cw (e_sg j) i k + (e_sg j (i + k) - 96)
          rw [ih (by omega), d2 k (by omega)]
      exact this len (Nat.le_refl _)
    rw [if_pos c, if_pos (show E - s ≤ 6 by omega), if_neg (not_not_intro ec)]
  · rw [if_neg c]
    by_cases d : E - s ≤ 6
    · rw [if_pos d, if_pos (fun he => c (decide_eq_true ?_))]
      obtain ⟨e1, e2⟩ := t_cw_inj (E - s) len (fun q hq => hLt (s + q) (by omega) (by omega)) hw (he.trans hV.symm)
      exact ⟨by omega, fun q hq => e2 q (by omega)⟩
    · rw [if_neg d, if_pos (by omega)]
