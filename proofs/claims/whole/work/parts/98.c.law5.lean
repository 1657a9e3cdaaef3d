/-! THE LAW'S TEXT, 5: the whole of it -/
theorem l_step {T : Nat → Int} {e F : Nat} (hF : 2000 < F) (hT : ∀ j, j < 600 → 0 ≤ T j ∧ T j ≤ 255) (he : e ≤ 150) {o kc km : Nat} (ho : o ≤ 6) (hS : o < 6 → l_P T e (o + 1) (fun M => g_X2_readSum F kc 0 ((o + 1 : Nat) : Int) M) (fun N => g_X11_sum F km 0 N)) : l_P T e o (fun M => g_X2_readSum F (kc + 4) 0 (o : Int) M) (fun N => g_X11_sum F (km + 3) 0 N) := by
  have eN : (fun x1 N => g_X2_readSum F (kc + 1) 4 x1 N) = fun x1 N => f_X2_readName (fun x1 N => g_X2_readSum F kc 0 x1 N) F x1 N := by
    funext x1 N
    rw [g_X2_readSum, if_neg (by decide), if_neg (by decide), if_neg (by decide), if_neg (by decide)]
  have eB : (fun x1 N => g_X2_readSum F (kc + 1) 3 x1 N) = fun x1 N => f_X2_readBracket (fun x1 N => g_X2_readSum F kc 0 x1 N) F x1 N := by
    funext x1 N
    rw [g_X2_readSum, if_neg (by decide), if_neg (by decide), if_neg (by decide), if_pos rfl]
  have eU : (fun x1 N => g_X2_readSum F (kc + 2) 2 x1 N) = fun x1 N => f_X2_readUnit (fun x1 N => f_X2_readName (fun x1 N => g_X2_readSum F kc 0 x1 N) F x1 N) (fun x1 N => f_X2_readBracket (fun x1 N => g_X2_readSum F kc 0 x1 N) F x1 N) F x1 N := by
    funext x1 N
    rw [g_X2_readSum, if_neg (by decide), if_neg (by decide), if_pos rfl, eN, eB]
  have mU : (fun N => g_X11_sum F (km + 1) 2 N) = fun N => f_X11_one (fun N => g_X11_sum F km 0 N) F N := by
    funext N
    rw [g_X11_sum, if_neg (by decide), if_neg (by decide)]
  have u : l_P T e o (fun M => (fun x1 N => g_X2_readSum F (kc + 2) 2 x1 N) (o : Int) M) (fun N => g_X11_sum F (km + 1) 2 N) := by
    rw [eU, mU]
    exact l_unit (rs := fun x N => g_X2_readSum F kc 0 x N) (ms := fun N => g_X11_sum F km 0 N) hF hT he ho hS
  have eP : (fun x1 N => g_X2_readSum F (kc + 3) 1 x1 N) = fun x1 N => f_X2_readProduct (fun x1 N => g_X2_readSum F (kc + 2) 2 x1 N) F x1 N := by
    funext x1 N
    rw [g_X2_readSum, if_neg (by decide), if_pos rfl]
  have mP : (fun N => g_X11_sum F (km + 2) 1 N) = fun N => f_X11_product (fun N => g_X11_sum F (km + 1) 2 N) F N := by
    funext N
    rw [g_X11_sum, if_neg (by decide), if_pos rfl]
  have p : l_P T e o (fun M => (fun x1 N => g_X2_readSum F (kc + 3) 1 x1 N) (o : Int) M) (fun N => g_X11_sum F (km + 2) 1 N) := by
    rw [eP, mP]
    exact l_two hF he u (l_prl hT he u)
  have s := l_two hF he p (l_sml hT he p)
  have eS : (fun M => g_X2_readSum F (kc + 4) 0 (o : Int) M) = fun M => f_X2_readSum (fun x1 N => g_X2_readSum F (kc + 3) 1 x1 N) F (o : Int) M := by
    funext N
    rw [g_X2_readSum, if_pos rfl]
  have mS : (fun N => g_X11_sum F (km + 3) 0 N) = fun N => f_X11_sum (fun N => g_X11_sum F (km + 2) 1 N) F N := by
    funext N
    rw [g_X11_sum, if_pos rfl]
  rw [eS, mS]
  exact s
theorem l_all {T : Nat → Int} {e F : Nat} (hF : 2000 < F) (hT : ∀ j, j < 600 → 0 ≤ T j ∧ T j ≤ 255) (he : e ≤ 150) : ∀ (d o kc km : Nat), o + d = 6 → 4 * (d + 1) ≤ kc → 3 * (d + 1) ≤ km → l_P T e o (fun M => g_X2_readSum F kc 0 (o : Int) M) (fun N => g_X11_sum F km 0 N) := by
  intro d
  induction d with
  | zero =>
    intro o kc km h1 h2 h3
    obtain ⟨kc', rfl⟩ : ∃ x, kc = x + 4 := ⟨kc - 4, by omega⟩
    obtain ⟨km', rfl⟩ : ∃ x, km = x + 3 := ⟨km - 3, by omega⟩
    exact l_step hF hT he (by omega) (fun h => absurd h (by omega))
  | succ d ih =>
    intro o kc km h1 h2 h3
    obtain ⟨kc', rfl⟩ : ∃ x, kc = x + 4 := ⟨kc - 4, by omega⟩
    obtain ⟨km', rfl⟩ : ∃ x, km = x + 3 := ⟨km - 3, by omega⟩
    exact l_step hF hT he (by omega) (fun h => ih (o + 1) kc' km' (by omega) (by omega) (by omega))
theorem z_lyl {M : e_M} {c : Nat} (hc : c ≤ 150) : ∃ N, (∀ f, 700 < f → f_X11_lays_m_law f (c : Int) M = some (0, N)) ∧ (∀ k, k < c → N (114 + k) 0 = M (275 + k) 0 ∧ N (114 + k) 1 = M (275 + k) 1) ∧ ∀ a j, ¬ (114 ≤ a ∧ a ≤ 273) → N a j = M a j := by
  obtain ⟨A, ⟨a1, a2⟩, hA⟩ := q_run 0 4 c (fun f (A : e_M) i => f_X11_lays_m_law_L2 f 0 (c : Int) i 0 A) (fun i A => (∀ k, k < i → A (114 + k) 0 = M (275 + k) 0 ∧ A (114 + k) 1 = M (275 + k) 1) ∧ ∀ a j, ¬ (114 ≤ a ∧ a ≤ 273) → A a j = M a j) (a := M) (fun i A hi hA => by
    obtain ⟨a1, a2⟩ := hA
    refine ⟨e_up (e_up A (114 + i) 0 (A (275 + i) 0)) (114 + i) 1 (A (275 + i) 1), ⟨fun k hk => ?_, fun a j ha => by rw [u_r (by omega), u_r (by omega), a2 a j ha]⟩, fun f hf => ?_⟩
    · by_cases e : k = i
      · subst e
        rw [u_c (by decide), u_s, u_s, a2 _ 0 (by omega), a2 _ 1 (by omega)]
        exact ⟨rfl, rfl⟩
      · rw [u_r (by omega), u_r (by omega), u_r (by omega), u_r (by omega)]
        exact a1 k (by omega)
    · have hi2 : 0 ≤ (i : Int) ∧ (i : Int) < 160 := by omega
      rw [f_X11_lays_m_law_L2, if_pos rfl, if_neg (show ¬ (c : Int) ≤ (i : Int) by omega), f_X11_lays_m_law_L2, if_neg (show ¬ (1 : Nat) = 0 by decide), if_pos hi2, if_neg (show ¬ (2 : Int) ≤ 0 by decide), if_pos hi2, if_pos hi2, if_pos (show (0 : Int) ≤ 0 ∧ (0 : Int) < 2 by decide), if_pos (show (0 : Int) ≤ 0 ∧ (0 : Int) < 2 by decide), Int.toNat_natCast, show e_w (0 + 1) = 1 by decide, f_X11_lays_m_law_L2, if_neg (show ¬ (1 : Nat) = 0 by decide), if_pos hi2, if_neg (show ¬ (2 : Int) ≤ 1 by decide), if_pos hi2, if_pos hi2, if_pos (show (0 : Int) ≤ 1 ∧ (1 : Int) < 2 by decide), if_pos (show (0 : Int) ≤ 1 ∧ (1 : Int) < 2 by decide), Int.toNat_natCast, show e_w (1 + 1) = 2 by decide, f_X11_lays_m_law_L2, if_neg (show ¬ (1 : Nat) = 0 by decide), if_pos hi2, if_pos (show (2 : Int) ≤ 2 by decide), e_ws_ (x := (i : Int) + 1) (by omega) (by omega)]
      have e1 : (e_up A (114 + i) 0 (A (275 + i) 0)) (275 + i) 1 = A (275 + i) 1 := u_r (by omega)
      show f_X11_lays_m_law_L2 f 0 (c : Int) ((i : Int) + 1) 0 (e_up (e_up A (114 + i) 0 (A (275 + i) 0)) (114 + i) 1 ((e_up A (114 + i) 0 (A (275 + i) 0)) (275 + i) 1)) = _
      rw [e1]) ⟨fun k hk => absurd hk (by omega), fun _ _ _ => rfl⟩
  refine ⟨A, fun f hf => ?_, a1, a2⟩
  obtain ⟨f', rfl⟩ : ∃ f', f = (f' + 1) + c * 4 := ⟨f - 1 - c * 4, by omega⟩
  refine Eq.trans (hA (f' + 1) (by omega)) ?_
  show f_X11_lays_m_law_L2 (f' + 1) 0 (c : Int) (c : Int) 0 A = _
  rw [f_X11_lays_m_law_L2, if_pos rfl, if_pos (Int.le_refl _)]
/-- the law is read, up to its end -/
theorem l_read {T : Nat → Int} {e F : Nat} (hF : 2000 < F) (hT : ∀ j, j < 600 → 0 ≤ T j ∧ T j ≤ 255) (he : e ≤ 150) {M : e_M} (h : l_S T e 0 0 0 (-1) M) : ∃ (l : Nat) (fl fp : Int) (M' : e_M), (f_b (f_k_X2_readSum F 0 M) fun _ NN2 => (f_b (f_X7_expectEnd F NN2) fun _ NN4 => (some ((0 : Int), NN4)))) = some (0, M') ∧ M' 2 4 = fl ∧ M' 2 5 = fp ∧ (fl = 0 → fp = -1 ∧ l ≤ 150 ∧ l_c l M') ∧ l_FC M M' ∧ ∀ N, l_N T e 0 0 0 0 (-1) M N → ∃ N', l_FN N N' ∧ (fl = 0 → l_R l M' N') ∧ (f_b (f_k_X11_sum F N) fun _ NN6 => (f_b (f_X11_blanks F NN6) fun _ NN8 => (if ¬ (NN8 64 5) = 0 then (if (NN8 64 5) = 0 then (f_b (f_X11_lays_m_law F ((e_up (e_up NN8 64 3 (-1)) 64 21 ((e_up NN8 64 3 (-1)) 64 22)) 64 21) (e_up (e_up NN8 64 3 (-1)) 64 21 ((e_up NN8 64 3 (-1)) 64 22))) fun _ NN22 => (some ((1 : Int), NN22))) else (f_b (f_X11_ends NN8) fun rr19 NN20 => (some (rr19, NN20)))) else (if (NN8 64 2) ≤ (NN8 64 4) then (if (NN8 64 5) = 0 then (f_b (f_X11_lays_m_law F ((e_up (e_up NN8 64 3 (-1)) 64 21 ((e_up NN8 64 3 (-1)) 64 22)) 64 21) (e_up (e_up NN8 64 3 (-1)) 64 21 ((e_up NN8 64 3 (-1)) 64 22))) fun _ NN18 => (some (1, NN18))) else (f_b (f_X11_ends NN8) fun rr15 NN16 => (some (rr15, NN16)))) else (f_b (f_X11_wrong 1 (NN8 64 4) NN8) fun _ NN10 => (if (NN10 64 5) = 0 then (f_b (f_X11_lays_m_law F ((e_up (e_up NN10 64 3 (-1)) 64 21 ((e_up NN10 64 3 (-1)) 64 22)) 64 21) (e_up (e_up NN10 64 3 (-1)) 64 21 ((e_up NN10 64 3 (-1)) 64 22))) fun _ NN14 => (some (1, NN14))) else (f_b (f_X11_ends NN10) fun rr11 NN12 => (some (rr11, NN12))))))))) = if fl = 0 then (f_b (f_X11_lays_m_law F (l : Int) (e_up (e_up N' 64 3 (-1)) 64 21 (l : Int))) fun _ NN => some (1, NN)) else some (e_w (fl - 10), e_up N' 64 3 fp) := by
  obtain ⟨a1, l1, f1, p1, M1, u1, u2, u3, u4, u5⟩ := l_all hF hT he 6 0 40 40 rfl (by omega) (by omega) 0 0 0 (-1) M h
  have u1' : f_k_X2_readSum F 0 M = some (0, M1) := u1
  have u5' : ∀ N, l_N T e 0 0 0 0 (-1) M N → ∃ N', f_k_X11_sum F N = some (0, N') ∧ l_N T e 0 a1 l1 f1 p1 M1 N' ∧ l_FN N N' := u5
  by_cases hf : f1 = 0
  · subst hf
    obtain ⟨y1, y2, y3⟩ := u2.2.2.2 rfl
    subst y1
    obtain ⟨M2, k1, k2, k3⟩ := t_ae hT (by omega) u2.1 u2.2.1
    have hs := (t_s_p (T := T) (e - a1) a1 rfl).2.1 u2.1
    by_cases c : t_s T e a1 < e
    · obtain ⟨x1, x2, x3⟩ := t_C_fl (k := 1) (p := (t_s T e a1 : Int)) k2
      refine ⟨0, 1, (t_s T e a1 : Int), _, ?_, x2.2.2.1, x2.2.2.2.1, fun hz => absurd hz (by decide), u3.tr (t_fC.l (k3.tr x3)), fun N hN => ?_⟩
      · unfold f_X7_expectEnd
        rw [u1', f_bs, u2.2.1.2.2.1, if_neg (show ¬ ¬ (0 : Int) = 0 by decide), k1 F (by omega), f_bs, if_pos c, if_neg (show ¬ ¬ (0 : Int) = 0 by decide), k2.2.1, x1, f_bs, f_bs]
      · obtain ⟨N1, n1, ⟨b, b1, b2, b3⟩, n3⟩ := u5' N hN
        obtain ⟨b4, b5, b6⟩ := b3 rfl
        obtain ⟨N2, o1, o2, o3⟩ := t_bl hT (by omega) (e - b) b 0 (-1) N1 rfl b1 b2
        rw [b4] at o2
        obtain ⟨q1, q2, q3⟩ := t_m_fl (k := 1) (p := (t_s T e a1 : Int)) o2
        refine ⟨_, n3.tr (t_fm.l (o3.tr q3)), fun hz => absurd hz (by decide), ?_⟩
        rw [n1, f_bs, o1 F (by omega), f_bs, o2.2.2.1, if_neg (show ¬ ¬ (0 : Int) = 0 by decide), o2.1, o2.2.1, if_neg (show ¬ (e : Int) ≤ (t_s T e a1 : Int) by omega), q1, f_bs, q2.2.2.1, if_neg (show ¬ (1 : Int) = 0 by decide), if_neg (show ¬ (1 : Int) = 0 by decide)]
        unfold f_X11_ends
        rw [q2.2.2.2.1, u_c (show (5 : Nat) ≠ 3 by decide), q2.2.2.1, f_bs]
    · refine ⟨l1, 0, -1, M2, ?_, k2.2.2.1, k2.2.2.2.1, fun _ => ⟨rfl, by have := u2.1; omega, l_c_f k3 y3⟩, u3.tr (t_fC.l k3), fun N hN => ?_⟩
      · unfold f_X7_expectEnd
        rw [u1', f_bs, u2.2.1.2.2.1, if_neg (show ¬ ¬ (0 : Int) = 0 by decide), k1 F (by omega), f_bs, if_neg c, if_pos (show ¬ (1 : Int) = 0 by decide), f_bs]
      · obtain ⟨N1, n1, ⟨b, b1, b2, b3⟩, n3⟩ := u5' N hN
        obtain ⟨b4, b5, b6⟩ := b3 rfl
        obtain ⟨N2, o1, o2, o3⟩ := t_bl hT (by omega) (e - b) b 0 (-1) N1 rfl b1 b2
        rw [b4] at o2
        have r6 := l_R_f k3 o3 b6
        refine ⟨N2, n3.tr (t_fm.l o3), fun _ => r6, ?_⟩
        rw [n1, f_bs, o1 F (by omega), f_bs, o2.2.2.1, if_neg (show ¬ ¬ (0 : Int) = 0 by decide), o2.1, o2.2.1, if_pos (show (e : Int) ≤ (t_s T e a1 : Int) by omega), if_pos rfl, if_pos rfl, u_c (show (22 : Nat) ≠ 3 by decide), r6.1, u_s]
  · refine ⟨0, f1, p1, M1, ?_, u2.2.1.2.2.1, u2.2.1.2.2.2.1, fun hz => absurd hz hf, u3, fun N hN => ?_⟩
    · unfold f_X7_expectEnd
      rw [u1', f_bs, u2.2.1.2.2.1, if_pos hf, f_bs]
    · obtain ⟨N1, n1, ⟨b, b1, b2, b3⟩, n3⟩ := u5' N hN
      obtain ⟨N2, o1, o2, o3⟩ := t_bl hT (by omega) (e - b) b f1 p1 N1 rfl b1 b2
      refine ⟨N2, n3.tr (t_fm.l o3), fun hz => absurd hz hf, ?_⟩
      rw [n1, f_bs, o1 F (by omega), f_bs, o2.2.2.1, if_pos hf, if_neg hf, if_neg hf]
      unfold f_X11_ends
      rw [o2.2.2.2.1, u_c (show (5 : Nat) ≠ 3 by decide), o2.2.2.1, f_bs]
