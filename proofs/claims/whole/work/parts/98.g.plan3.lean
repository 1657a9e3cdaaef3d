/-! A WORK'S TEXT, 3: the whole of it -/
theorem p_rsf {T : Nat → Int} {e a : Nat} {fl fp : Int} {M : e_M} {rc : Int → e_M → Option (Int × e_M)} {p3 v : Int} {f : Nat} (hf : fl ≠ 0) (h : t_C T e a fl fp M) : f_X4_readSteps_3 rc (f + 1) p3 v M = some (0, M) := by
  rw [f_X4_readSteps_3, t_fd h, f_bs, if_neg hf, if_pos (show ¬ (1 : Int) = 0 by decide)]
  split <;> rfl
theorem p_inn {T : Nat → Int} {e n t o F : Nat} {rcS : Int → e_M → Option (Int × e_M)} {rm : Nat → e_M → Option (Int × e_M)} (hF : 2000 < F) (hT : ∀ j, j < 600 → 0 ≤ T j ∧ T j ≤ 255) (he : e ≤ 150) (ho : 1 ≤ o) (hQ : p_Q T e n t o (fun M => rcS (o : Int) M) rm) : p_I T e n t o (fun M => f_X4_readSteps rcS F (o : Int) M) rm := by
  intro a l M hC
  have hL := p_lup (ι := Nat × Nat) (ok := fun i => 2000 < i.2) (B := 620) (LC := fun f v M => f_X4_readSteps_3 rcS f (o : Int) v M) (LM := fun i f N => f_X11_readsStep_135 (rm i.2) i.1 f 4 N) (X := fun i g N => p_X i.1 g N) (stop := fun s => decide (t_b T e s = 93)) (φ := fun i _ => i.2) (Nat.le_refl _) (fun G f h _ => h) hT he hQ
    (fun a M ha hCC => by
      obtain ⟨M1, k1, k2, k3⟩ := t_peek hT (by omega) (e - a) a 0 (-1) M rfl ha hCC
      refine ⟨M1, k2, k3, fun f v hf hv => ?_⟩
      show f_X4_readSteps_3 rcS (f + 1) (o : Int) (v : Int) M = _
      rw [f_X4_readSteps_3, if_neg (show ¬ (30 : Int) < (v : Int) by omega), t_fd hCC, f_bs, if_pos rfl, if_neg (show ¬ ¬ (0 : Int) = 0 by decide), if_pos (show ¬ (o : Int) = 0 by omega), k1 f (by omega), f_bs, y_ei (by omega)]
      by_cases c : t_b T e (t_s T e a) = 93
      · rw [if_neg (not_not_intro c), if_pos (decide_eq_true c)]
      · rw [if_pos c, if_neg (fun x => c (of_decide_eq_true x))])
    (fun a fl fp M f v hf h => p_rsf hf h)
    (fun s N hs hN i f => by
      show f_X11_readsStep_135 (rm i.2) i.1 (f + 1) 4 N = _
      rw [f_X11_readsStep_135, hN.2.2.1, if_neg (show ¬ ¬ (0 : Int) = 0 by decide), hN.2.1, t_by hT (by omega) hs hN, f_bs]
      by_cases c : t_b T e s = 93
      · rw [if_pos c, if_pos (decide_eq_true c)]
        rfl
      · rw [if_neg c, if_neg (fun x => c (of_decide_eq_true x))])
    (fun N i f h5 => by
      show f_X11_readsStep_135 (rm i.2) i.1 (f + 1) 4 N = _
      rw [f_X11_readsStep_135, if_pos h5]
      rfl)
    200 a l 0 M (Nat.le_refl _) (by omega) (Nat.zero_le _) hC
  obtain ⟨a', l', fl, fp, M', k1, k2, k3, k4, k5, k6⟩ := hL
  refine ⟨a', l', fl, fp, M', k1 F (by omega), k2, k3, k4, k5, fun u2 N hN G hG => ?_⟩
  obtain ⟨b, g, N', g1, g2, g3, g4, g5, g6, g7⟩ := k6 N hN (u2, G) G hG (by omega)
  exact ⟨b, g, N', g1, g3, g4, g5, g6, g7⟩
theorem p_qs {T : Nat → Int} {e n t F : Nat} (hF : 2000 < F) (hT : ∀ j, j < 600 → 0 ≤ T j ∧ T j ≤ 255) (he : e ≤ 150) (hn : n ≤ 6) (ht : t ≤ 12) : ∀ (d o kc km : Nat), o + d = 6 → 3 * d + 2 ≤ kc → d + 1 ≤ km → p_Q T e n t o (fun M => g_X4_readSteps F kc 1 (o : Int) 0 M) (fun G N => g_X11_readsStep G km 0 N) := by
  intro d
  have stp : ∀ (o kc km : Nat), o ≤ 6 → (o < 6 → p_I T e n t (o + 1) (fun M => g_X4_readSteps F kc 0 ((o + 1 : Nat) : Int) 0 M) (fun G N => g_X11_readsStep G km 0 N)) → (o < 6 → 1 ≤ kc) → p_Q T e n t o (fun M => g_X4_readSteps F (kc + 2) 1 (o : Int) 0 M) (fun G N => g_X11_readsStep G (km + 1) 0 N) := by
    intro o kc km ho hI hk
    have eA : (fun x1 x2 N => g_X4_readSteps F (kc + 1) 2 x1 x2 N) = fun x1 x2 N => f_X4_readAgain (fun x1 N => g_X4_readSteps F kc 0 x1 0 N) F x1 x2 N := by
      funext x1 x2 N
      rw [g_X4_readSteps, if_neg (by decide), if_neg (by decide)]
    have eS : (fun M => g_X4_readSteps F (kc + 2) 1 (o : Int) 0 M) = fun M => f_X4_readStep (fun x1 x2 N => f_X4_readAgain (fun x1 N => g_X4_readSteps F kc 0 x1 0 N) F x1 x2 N) F (o : Int) M := by
      funext N
      rw [g_X4_readSteps, if_neg (by decide), if_pos rfl, eA]
    have mS : (fun (G : Nat) (N : e_M) => g_X11_readsStep G (km + 1) 0 N) = fun G N => f_X11_readsStep ((fun (G : Nat) (N : e_M) => g_X11_readsStep G km 0 N) G) G N := by
      funext G N
      rw [g_X11_readsStep]
    rw [eS, mS]
    exact p_stp (rs := fun x1 N => g_X4_readSteps F kc 0 x1 0 N) (mk := fun (G : Nat) (N : e_M) => g_X11_readsStep G km 0 N) hF hT he hn ht ho hI (fun h a fl fp M hf hC => by
      obtain ⟨k', rfl⟩ : ∃ k', kc = k' + 1 := ⟨kc - 1, by have := hk h; omega⟩
      obtain ⟨F', rfl⟩ : ∃ F', F = F' + 1 := ⟨F - 1, by omega⟩
      show g_X4_readSteps (F' + 1) (k' + 1) 0 ((o + 1 : Nat) : Int) 0 M = _
      rw [g_X4_readSteps, if_pos rfl]
      unfold f_X4_readSteps
      exact p_rsf hf hC)
  induction d with
  | zero =>
    intro o kc km h1 h2 h3
    obtain ⟨kc', rfl⟩ : ∃ x, kc = x + 2 := ⟨kc - 2, by omega⟩
    obtain ⟨km', rfl⟩ : ∃ x, km = x + 1 := ⟨km - 1, by omega⟩
    exact stp o kc' km' (by omega) (fun h => absurd h (by omega)) (fun h => absurd h (by omega))
  | succ d ih =>
    intro o kc km h1 h2 h3
    obtain ⟨kc', rfl⟩ : ∃ x, kc = x + 1 + 2 := ⟨kc - 3, by omega⟩
    obtain ⟨km', rfl⟩ : ∃ x, km = x + 1 := ⟨km - 1, by omega⟩
    refine stp o (kc' + 1) km' (by omega) (fun h => ?_) (fun h => by omega)
    have q := ih (o + 1) kc' km' (by omega) (by omega) (by omega)
    have eI : (fun M => g_X4_readSteps F (kc' + 1) 0 ((o + 1 : Nat) : Int) 0 M) = fun M => f_X4_readSteps (fun x1 N => g_X4_readSteps F kc' 1 x1 0 N) F ((o + 1 : Nat) : Int) M := by
      funext N
      rw [g_X4_readSteps, if_pos rfl]
    rw [eI]
    exact p_inn hF hT he (by omega) q
/-- a work's text is read, both sides -/
theorem p_read {T : Nat → Int} {e n t F : Nat} (hF : 3000 < F) (hT : ∀ j, j < 600 → 0 ≤ T j ∧ T j ≤ 255) (he : e ≤ 150) (hn : n ≤ 6) (ht : t ≤ 12) {M : e_M} (hC : p_C T e n t 0 0 M) : ∃ (l : Nat) (fl fp : Int) (M' : e_M), f_k_X4_readSteps F 0 M = some (0, M') ∧ M' 2 4 = fl ∧ M' 2 5 = fp ∧ (fl = 0 → fp = -1 ∧ M' 32 0 = (l : Int) ∧ l ≤ 30 ∧ p_S n t M' 6 0 l) ∧ p_FC 0 M M' ∧ ∀ (N : e_M) (p1 : Int), p_N T e n t 0 (t_s T e 0) 0 N → ∃ (g : Nat) (N' : e_M), F ≤ g + 210 ∧ f_X11_work_72 F p1 N = f_X11_work_101 g p1 N' ∧ N' 64 5 = fl ∧ N' 64 6 = fp ∧ (fl = 0 → N' 64 30 = (l : Int) ∧ p_E M' N' 0 l) ∧ p_FN 0 N N' := by
  have q := p_qs (F := F) (T := T) (e := e) (by omega) hT he hn ht 6 0 29 12 rfl (by omega) (by omega)
  have hL := p_lup (ι := Int) (ok := fun _ => True) (B := 2000) (LC := fun f v M => f_X4_readSteps_3 (fun x1 N => g_X4_readSteps F 29 1 x1 0 N) f 0 v M) (LM := fun p1 f N => f_X11_work_72 f p1 N) (X := fun p1 g N => f_X11_work_101 g p1 N) (stop := fun s => decide (¬ s < e)) (φ := fun _ f => f) (by decide) (fun _ f _ h => h) hT he q
    (fun a M ha hCC => by
      obtain ⟨M1, k1, k2, k3⟩ := t_ae hT (by omega) ha hCC
      refine ⟨M1, k2, k3, fun f v hf hv => ?_⟩
      show f_X4_readSteps_3 (fun x1 N => g_X4_readSteps F 29 1 x1 0 N) (f + 1) 0 (v : Int) M = _
      rw [f_X4_readSteps_3, if_neg (show ¬ (30 : Int) < (v : Int) by omega), t_fd hCC, f_bs, if_pos rfl, if_neg (show ¬ ¬ (0 : Int) = 0 by decide), if_neg (show ¬ ¬ (0 : Int) = 0 by decide), k1 f (by omega), f_bs, y_ei (by omega)]
      by_cases c : t_s T e a < e
      · rw [if_pos c, if_pos rfl, if_neg (fun x => (of_decide_eq_true x) c)]
        rfl
      · rw [if_neg c, if_neg (show ¬ (1 : Int) = 0 by decide), if_pos (decide_eq_true c)])
    (fun a fl fp M f v hf h => p_rsf hf h)
    (fun s N hs hN p1 f => by
      show f_X11_work_72 (f + 1) p1 N = _
      rw [f_X11_work_72, hN.2.2.1, if_neg (show ¬ ¬ (0 : Int) = 0 by decide), hN.1, hN.2.1]
      by_cases c : s < e
      · rw [if_neg (show ¬ (e : Int) ≤ (s : Int) by omega), if_neg (fun x => (of_decide_eq_true x) c)]
        rfl
      · rw [if_pos (show (e : Int) ≤ (s : Int) by omega), if_pos (decide_eq_true c)])
    (fun N p1 f h5 => by
      show f_X11_work_72 (f + 1) p1 N = _
      rw [f_X11_work_72, if_pos h5])
    200 0 0 0 M (Nat.le_refl _) (by omega) (Nat.zero_le _) hC
  obtain ⟨a', l', fl, fp, M', k1, k2, k3, k4, k5, k6⟩ := hL
  refine ⟨l', fl, fp, M', ?_, k3.2.2.1, k3.2.2.2.1, fun hz => ?_, k5, fun N p1 hN => ?_⟩
  · unfold f_k_X4_readSteps
    rw [g_X4_readSteps, if_pos rfl]
    unfold f_X4_readSteps
    exact k1 F (by omega)
  · obtain ⟨z1, z2, z3, z4, z5, z6⟩ := k4 hz
    exact ⟨z1, z2, by omega, z6⟩
  · obtain ⟨b, g, N', g1, g2, g3, g4, g5, g6, g7⟩ := k6 N hN p1 F trivial (by omega)
    exact ⟨g, N', by omega, g3, g5.2.2.1, g5.2.2.2.1, fun hz => ⟨(g6 hz).2.1, (g6 hz).2.2.2⟩, g7⟩
