/-! THE LAW'S TEXT, 2: sums and products -/
def l_P (T : Nat → Int) (e o : Nat) (fc fm : e_M → Option (Int × e_M)) : Prop := ∀ (a l : Nat) (fl fp : Int) (M : e_M), l_S T e a l fl fp M → ∃ (a' l' : Nat) (fl' fp' : Int) (M' : e_M), fc M = some (0, M') ∧ l_S T e a' l' fl' fp' M' ∧ l_FC M M' ∧ (fl' = 0 → fl = 0 ∧ a < a' ∧ l' + a ≤ l + a' ∧ x_h (M' 25) l' = x_h (M 25) l + 1) ∧ ∀ N, l_N T e o a l fl fp M N → ∃ N', fm N = some (0, N') ∧ l_N T e o a' l' fl' fp' M' N' ∧ l_FN N N'
def l_L (T : Nat → Int) (e o j v : Nat) (LC : Nat → Int → e_M → Option (Int × e_M)) (LM : Nat → e_M → Option (Int × e_M)) : Prop := ∀ (a l : Nat) (fl fp : Int) (M : e_M), (fl = 0 → e - a < j ∧ v < a ∧ 1 ≤ x_h (M 25) l) → l_S T e a l fl fp M → ∃ (a' l' : Nat) (fl' fp' : Int) (M' : e_M), (∀ f, j + 610 < f → LC f (v : Int) M = some (0, M')) ∧ l_S T e a' l' fl' fp' M' ∧ l_FC M M' ∧ (fl' = 0 → fl = 0 ∧ a ≤ a' ∧ l' + a ≤ l + a' ∧ x_h (M' 25) l' = x_h (M 25) l) ∧ ∀ N, l_N T e o a l fl fp M N → ∃ N', (∀ f, j + 610 < f → LM f N = some (0, N')) ∧ l_N T e o a' l' fl' fp' M' N' ∧ l_FN N N'
theorem l_turn {T : Nat → Int} {e o j v a l a1 : Nat} {w : Int} {LC : Nat → Int → e_M → Option (Int × e_M)} {LM : Nat → e_M → Option (Int × e_M)} {fc fm : e_M → Option (Int × e_M)} {M1 : e_M} (he : e ≤ 150) (hw : 2 ≤ w ∧ w ≤ 8) (hU : l_P T e o fc fm) (hL : l_L T e o j (v + 1) LC LM) (h1 : l_S T e a1 l 0 (-1) M1) (ha : a + 1 ≤ a1) (hj : e - a < j + 1) (hv : v < a) (hl : l ≤ a) (hx : 1 ≤ x_h (M1 25) l) : ∃ (a' l' : Nat) (fl' fp' : Int) (M' : e_M), (∀ f, j + 610 < f → (f_b (fc M1) fun _ NN => f_b (f_X2_emit_lawDraft (1998 + w) NN) fun _ NN2 => LC f ((v + 1 : Nat) : Int) NN2) = some (0, M')) ∧ l_S T e a' l' fl' fp' M' ∧ l_FC M1 M' ∧ (fl' = 0 → a < a' ∧ l' + a ≤ l + a' ∧ x_h (M' 25) l' = x_h (M1 25) l) ∧ ∀ N1, l_N T e o a1 l 0 (-1) M1 N1 → ∃ N', (∀ f, j + 610 < f → (f_b (fm N1) fun _ NN => f_b (f_X11_notes w 0 NN) fun _ NN2 => LM f NN2) = some (0, N')) ∧ l_N T e o a' l' fl' fp' M' N' ∧ l_FN N1 N' := by
  obtain ⟨a2, l2, f2, p2, M2, u1, u2, u3, u4, u5⟩ := hU a1 l 0 (-1) M1 h1
  have hq : f2 = 0 → l2 + 1 ≤ a2 ∧ q_cd (1998 + w) w 0 ∧ (2 ≤ w → 2 ≤ x_h (M2 25) l2) := fun hz => by
    obtain ⟨_, z2, z3, z4⟩ := u4 hz
    refine ⟨by omega, Or.inr (Or.inr ⟨hw.1, hw.2, rfl⟩), fun _ => by omega⟩
  obtain ⟨l3, M3, v1, v2, v3, v4, v5⟩ := l_em he u2 hq
  have hx3 : f2 = 0 → x_h (M3 25) l3 = x_h (M1 25) l := fun hz => by
    obtain ⟨_, z2, z3, z4⟩ := u4 hz
    obtain ⟨y1, y2⟩ := v4 hz
    rw [y1, y2, if_neg (by omega), z4]; omega
  obtain ⟨a4, l4, f4, p4, M4, w1, w2, w3, w4, w5⟩ := hL a2 l3 f2 p2 M3 (fun hz => by
    obtain ⟨_, z2, z3, z4⟩ := u4 hz
    have := u2.1
    refine ⟨by omega, by omega, by rw [hx3 hz]; exact hx⟩) v2
  refine ⟨a4, l4, f4, p4, M4, fun f hf => ?_, w2, (u3.tr v3).tr w3, fun hz => ?_, fun N1 hN => ?_⟩
  · rw [u1, f_bs, v1, f_bs]; exact w1 f hf
  · obtain ⟨z1, z2, z3, z4⟩ := w4 hz
    obtain ⟨_, y2, y3, y4⟩ := u4 z1
    obtain ⟨x1, x2⟩ := v4 z1
    exact ⟨by omega, by omega, by rw [z4, hx3 z1]⟩
  · obtain ⟨N2, g1, g2, g3⟩ := u5 N1 hN
    obtain ⟨N3, k1, k2, k3⟩ := v5 o N2 g2
    obtain ⟨N4, t1, t2, t3⟩ := w5 N3 k2
    refine ⟨N4, fun f hf => ?_, t2, (g3.tr k3).tr t3⟩
    rw [g1, f_bs, k1, f_bs]; exact t1 f hf
/-- a loop, flawed: nothing -/
theorem l_fl {T : Nat → Int} {e o j v a l : Nat} {fl fp : Int} {LC : Nat → Int → e_M → Option (Int × e_M)} {LM : Nat → e_M → Option (Int × e_M)} {M : e_M} (hf : fl ≠ 0) (h : l_S T e a l fl fp M) (h1 : ∀ f, 0 < f → LC f (v : Int) M = some (0, M)) (h2 : ∀ f N, 0 < f → N 64 5 = fl → LM f N = some (0, N)) : ∃ (a' l' : Nat) (fl' fp' : Int) (M' : e_M), (∀ f, j + 610 < f → LC f (v : Int) M = some (0, M')) ∧ l_S T e a' l' fl' fp' M' ∧ l_FC M M' ∧ (fl' = 0 → fl = 0 ∧ a ≤ a' ∧ l' + a ≤ l + a' ∧ x_h (M' 25) l' = x_h (M 25) l) ∧ ∀ N, l_N T e o a l fl fp M N → ∃ N', (∀ f, j + 610 < f → LM f N = some (0, N')) ∧ l_N T e o a' l' fl' fp' M' N' ∧ l_FN N N' :=
  ⟨a, l, fl, fp, M, fun f hf => h1 f (by omega), h, l_FC.rf, fun hz => absurd hz hf, fun N hN => ⟨N, fun f hf => h2 f N (by omega) (by obtain ⟨b, _, b2, _⟩ := hN; exact b2.2.2.1), hN, l_FN.rf⟩⟩
theorem l_prl {T : Nat → Int} {e o : Nat} {rc : Int → e_M → Option (Int × e_M)} {rm : e_M → Option (Int × e_M)} (hT : ∀ j, j < 600 → 0 ≤ T j ∧ T j ≤ 255) (he : e ≤ 150) (hU : l_P T e o (fun M => rc (o : Int) M) rm) : ∀ (j v : Nat), l_L T e o j v (fun f x M => f_X2_readProduct_8 rc f (o : Int) x M) (fun f N => f_X11_product_4 rm f N) := by
  intro j
  have flw : ∀ (j v a l : Nat) (fl fp : Int) (M : e_M), fl ≠ 0 → l_S T e a l fl fp M → _ := fun j v a l fl fp M hf h => l_fl (o := o) (j := j) (v := v) (LC := fun f x M => f_X2_readProduct_8 rc f (o : Int) x M) (LM := fun f N => f_X11_product_4 rm f N) hf h (fun f h0 => by
    obtain ⟨f', rfl⟩ : ∃ f', f = f' + 1 := ⟨f - 1, by omega⟩
    show f_X2_readProduct_8 rc (f' + 1) (o : Int) (v : Int) M = _
    rw [f_X2_readProduct_8, t_fd h.2.1, f_bs, if_neg hf, if_pos (show ¬ (1 : Int) = 0 by decide)]
    split <;> rfl) (fun f N h0 h5 => by
    obtain ⟨f', rfl⟩ : ∃ f', f = f' + 1 := ⟨f - 1, by omega⟩
    show f_X11_product_4 rm (f' + 1) N = _
    rw [f_X11_product_4, h5, if_pos hf])
  induction j with
  | zero =>
    intro v a l fl fp M hp h
    by_cases hf : fl = 0
    · exact absurd (hp hf).1 (by omega)
    · exact flw 0 v a l fl fp M hf h
  | succ j ih =>
    intro v a l fl fp M hp h
    by_cases hf : fl = 0
    · subst hf
      obtain ⟨hp1, hp2, hp3⟩ := hp rfl
      obtain ⟨hfp, hl, _⟩ := h.2.2.2 rfl
      subst hfp
      have hC := h.2.1
      have hae := h.1
      have c150 : ¬ (150 : Int) ≤ (v : Int) := by omega
      obtain ⟨r_0, a_0, M_0, x1_0, x2_0, x3_0, x4_0, x5_0, x6_0, x7_0⟩ := l_tk (c := 42) hT he (by decide) h
      rcases x2_0 with rfl | rfl
      · skip
        obtain ⟨r_1, a_1, M_1, x1_1, x2_1, x3_1, x4_1, x5_1, x6_1, x7_1⟩ := l_tk (c := 47) hT he (by decide) x3_0
        rcases x2_1 with rfl | rfl
        · skip
          obtain ⟨r_2, a_2, M_2, x1_2, x2_2, x3_2, x4_2, x5_2, x6_2, x7_2⟩ := l_tk (c := 37) hT he (by decide) x3_1
          rcases x2_2 with rfl | rfl
          · skip
            refine ⟨a_2, l, 0, -1, M_2, fun f hf => ?_, x3_2, t_fC.l (((x4_0).tr x4_1).tr x4_2), fun _ => ⟨rfl, by omega, by omega, by rw [l_25 (((x4_0).tr x4_1).tr x4_2)]⟩, fun N hN => ?_⟩
            · obtain ⟨g, rfl⟩ : ∃ g, f = g + 1 := ⟨f - 1, by omega⟩
              show f_X2_readProduct_8 rc (g + 1) (o : Int) (v : Int) M = _
              rw [f_X2_readProduct_8, if_neg c150, t_fd hC, f_bs, if_pos rfl, if_neg (show ¬ ¬ (0 : Int) = 0 by decide), x1_0 g (by omega), f_bs, if_pos rfl, x1_1 g (by omega), f_bs, if_pos rfl, x1_2 g (by omega), f_bs, if_pos rfl]
            · have hN0 : N 64 5 = 0 := by obtain ⟨b, _, b2, _⟩ := hN; exact b2.2.2.1
              obtain ⟨N_0, n1_0, n2_0, n3_0⟩ := x7_0 o N hN
              obtain ⟨N_1, n1_1, n2_1, n3_1⟩ := x7_1 o N_0 n2_0
              obtain ⟨N_2, n1_2, n2_2, n3_2⟩ := x7_2 o N_1 n2_1
              refine ⟨N_2, fun f hf => ?_, n2_2, t_fm.l (((n3_0).tr n3_1).tr n3_2)⟩
              obtain ⟨g, rfl⟩ : ∃ g, f = g + 1 := ⟨f - 1, by omega⟩
              show f_X11_product_4 rm (g + 1) N = _
              rw [f_X11_product_4, hN0, if_neg (show ¬ ¬ (0 : Int) = 0 by decide), n1_0 g (by omega), f_bs, if_pos rfl, n1_1 g (by omega), f_bs, if_pos rfl, n1_2 g (by omega), f_bs, if_pos rfl]
          · skip
            obtain ⟨a', l', f', p', M', k1, k2, k3, k4, k5⟩ := l_turn (w := 6) he (by decide) hU (ih (v + 1)) x3_2 (show a + 1 ≤ a_2 by have := x6_2 rfl; omega) hp1 hp2 hl (by rw [l_25 (((x4_0).tr x4_1).tr x4_2)]; exact hp3)
            refine ⟨a', l', f', p', M', fun f hf => ?_, k2, (t_fC.l (((x4_0).tr x4_1).tr x4_2)).tr k3, fun hz => ⟨rfl, by have := k4 hz; omega, (k4 hz).2.1, by rw [(k4 hz).2.2, l_25 (((x4_0).tr x4_1).tr x4_2)]⟩, fun N hN => ?_⟩
            · obtain ⟨g, rfl⟩ : ∃ g, f = g + 1 := ⟨f - 1, by omega⟩
              show f_X2_readProduct_8 rc (g + 1) (o : Int) (v : Int) M = _
              rw [f_X2_readProduct_8, if_neg c150, t_fd hC, f_bs, if_pos rfl, if_neg (show ¬ ¬ (0 : Int) = 0 by decide), x1_0 g (by omega), f_bs, if_pos rfl, x1_1 g (by omega), f_bs, if_pos rfl, x1_2 g (by omega), f_bs, if_neg (show ¬ (1 : Int) = 0 by decide), y_ei (show v < 1000000 by omega)]
              exact k1 g (by omega)
            · have hN0 : N 64 5 = 0 := by obtain ⟨b, _, b2, _⟩ := hN; exact b2.2.2.1
              obtain ⟨N_0, n1_0, n2_0, n3_0⟩ := x7_0 o N hN
              obtain ⟨N_1, n1_1, n2_1, n3_1⟩ := x7_1 o N_0 n2_0
              obtain ⟨N_2, n1_2, n2_2, n3_2⟩ := x7_2 o N_1 n2_1
              obtain ⟨N', j1, j2, j3⟩ := k5 N_2 n2_2
              refine ⟨N', fun f hf => ?_, j2, (t_fm.l (((n3_0).tr n3_1).tr n3_2)).tr j3⟩
              obtain ⟨g, rfl⟩ : ∃ g, f = g + 1 := ⟨f - 1, by omega⟩
              show f_X11_product_4 rm (g + 1) N = _
              rw [f_X11_product_4, hN0, if_neg (show ¬ ¬ (0 : Int) = 0 by decide), n1_0 g (by omega), f_bs, if_pos rfl, n1_1 g (by omega), f_bs, if_pos rfl, n1_2 g (by omega), f_bs, if_neg (show ¬ (1 : Int) = 0 by decide)]
              exact j1 g (by omega)
        · skip
          obtain ⟨a', l', f', p', M', k1, k2, k3, k4, k5⟩ := l_turn (w := 5) he (by decide) hU (ih (v + 1)) x3_1 (show a + 1 ≤ a_1 by have := x6_1 rfl; omega) hp1 hp2 hl (by rw [l_25 ((x4_0).tr x4_1)]; exact hp3)
          refine ⟨a', l', f', p', M', fun f hf => ?_, k2, (t_fC.l ((x4_0).tr x4_1)).tr k3, fun hz => ⟨rfl, by have := k4 hz; omega, (k4 hz).2.1, by rw [(k4 hz).2.2, l_25 ((x4_0).tr x4_1)]⟩, fun N hN => ?_⟩
          · obtain ⟨g, rfl⟩ : ∃ g, f = g + 1 := ⟨f - 1, by omega⟩
            show f_X2_readProduct_8 rc (g + 1) (o : Int) (v : Int) M = _
            rw [f_X2_readProduct_8, if_neg c150, t_fd hC, f_bs, if_pos rfl, if_neg (show ¬ ¬ (0 : Int) = 0 by decide), x1_0 g (by omega), f_bs, if_pos rfl, x1_1 g (by omega), f_bs, if_neg (show ¬ (1 : Int) = 0 by decide), y_ei (show v < 1000000 by omega)]
            exact k1 g (by omega)
          · have hN0 : N 64 5 = 0 := by obtain ⟨b, _, b2, _⟩ := hN; exact b2.2.2.1
            obtain ⟨N_0, n1_0, n2_0, n3_0⟩ := x7_0 o N hN
            obtain ⟨N_1, n1_1, n2_1, n3_1⟩ := x7_1 o N_0 n2_0
            obtain ⟨N', j1, j2, j3⟩ := k5 N_1 n2_1
            refine ⟨N', fun f hf => ?_, j2, (t_fm.l ((n3_0).tr n3_1)).tr j3⟩
            obtain ⟨g, rfl⟩ : ∃ g, f = g + 1 := ⟨f - 1, by omega⟩
            show f_X11_product_4 rm (g + 1) N = _
            rw [f_X11_product_4, hN0, if_neg (show ¬ ¬ (0 : Int) = 0 by decide), n1_0 g (by omega), f_bs, if_pos rfl, n1_1 g (by omega), f_bs, if_neg (show ¬ (1 : Int) = 0 by decide)]
            exact j1 g (by omega)
      · skip
        obtain ⟨a', l', f', p', M', k1, k2, k3, k4, k5⟩ := l_turn (w := 4) he (by decide) hU (ih (v + 1)) x3_0 (show a + 1 ≤ a_0 by have := x6_0 rfl; omega) hp1 hp2 hl (by rw [l_25 (x4_0)]; exact hp3)
        refine ⟨a', l', f', p', M', fun f hf => ?_, k2, (t_fC.l (x4_0)).tr k3, fun hz => ⟨rfl, by have := k4 hz; omega, (k4 hz).2.1, by rw [(k4 hz).2.2, l_25 (x4_0)]⟩, fun N hN => ?_⟩
        · obtain ⟨g, rfl⟩ : ∃ g, f = g + 1 := ⟨f - 1, by omega⟩
          show f_X2_readProduct_8 rc (g + 1) (o : Int) (v : Int) M = _
          rw [f_X2_readProduct_8, if_neg c150, t_fd hC, f_bs, if_pos rfl, if_neg (show ¬ ¬ (0 : Int) = 0 by decide), x1_0 g (by omega), f_bs, if_neg (show ¬ (1 : Int) = 0 by decide), y_ei (show v < 1000000 by omega)]
          exact k1 g (by omega)
        · have hN0 : N 64 5 = 0 := by obtain ⟨b, _, b2, _⟩ := hN; exact b2.2.2.1
          obtain ⟨N_0, n1_0, n2_0, n3_0⟩ := x7_0 o N hN
          obtain ⟨N', j1, j2, j3⟩ := k5 N_0 n2_0
          refine ⟨N', fun f hf => ?_, j2, (t_fm.l (n3_0)).tr j3⟩
          obtain ⟨g, rfl⟩ : ∃ g, f = g + 1 := ⟨f - 1, by omega⟩
          show f_X11_product_4 rm (g + 1) N = _
          rw [f_X11_product_4, hN0, if_neg (show ¬ ¬ (0 : Int) = 0 by decide), n1_0 g (by omega), f_bs, if_neg (show ¬ (1 : Int) = 0 by decide)]
          exact j1 g (by omega)
    · exact flw (j + 1) v a l fl fp M hf h
theorem l_sml {T : Nat → Int} {e o : Nat} {rc : Int → e_M → Option (Int × e_M)} {rm : e_M → Option (Int × e_M)} (hT : ∀ j, j < 600 → 0 ≤ T j ∧ T j ≤ 255) (he : e ≤ 150) (hU : l_P T e o (fun M => rc (o : Int) M) rm) : ∀ (j v : Nat), l_L T e o j v (fun f x M => f_X2_readSum_8 rc f (o : Int) x M) (fun f N => f_X11_sum_4 rm f N) := by
  intro j
  have flw : ∀ (j v a l : Nat) (fl fp : Int) (M : e_M), fl ≠ 0 → l_S T e a l fl fp M → _ := fun j v a l fl fp M hf h => l_fl (o := o) (j := j) (v := v) (LC := fun f x M => f_X2_readSum_8 rc f (o : Int) x M) (LM := fun f N => f_X11_sum_4 rm f N) hf h (fun f h0 => by
    obtain ⟨f', rfl⟩ : ∃ f', f = f' + 1 := ⟨f - 1, by omega⟩
    show f_X2_readSum_8 rc (f' + 1) (o : Int) (v : Int) M = _
    rw [f_X2_readSum_8, t_fd h.2.1, f_bs, if_neg hf, if_pos (show ¬ (1 : Int) = 0 by decide)]
    split <;> rfl) (fun f N h0 h5 => by
    obtain ⟨f', rfl⟩ : ∃ f', f = f' + 1 := ⟨f - 1, by omega⟩
    show f_X11_sum_4 rm (f' + 1) N = _
    rw [f_X11_sum_4, h5, if_pos hf])
  induction j with
  | zero =>
    intro v a l fl fp M hp h
    by_cases hf : fl = 0
    · exact absurd (hp hf).1 (by omega)
    · exact flw 0 v a l fl fp M hf h
  | succ j ih =>
    intro v a l fl fp M hp h
    by_cases hf : fl = 0
    · subst hf
      obtain ⟨hp1, hp2, hp3⟩ := hp rfl
      obtain ⟨hfp, hl, _⟩ := h.2.2.2 rfl
      subst hfp
      have hC := h.2.1
      have hae := h.1
      have c150 : ¬ (150 : Int) ≤ (v : Int) := by omega
      obtain ⟨r_0, a_0, M_0, x1_0, x2_0, x3_0, x4_0, x5_0, x6_0, x7_0⟩ := l_tk (c := 43) hT he (by decide) h
      rcases x2_0 with rfl | rfl
      · skip
        obtain ⟨r_1, a_1, M_1, x1_1, x2_1, x3_1, x4_1, x5_1, x6_1, x7_1⟩ := l_tk (c := 45) hT he (by decide) x3_0
        rcases x2_1 with rfl | rfl
        · skip
          refine ⟨a_1, l, 0, -1, M_1, fun f hf => ?_, x3_1, t_fC.l ((x4_0).tr x4_1), fun _ => ⟨rfl, by omega, by omega, by rw [l_25 ((x4_0).tr x4_1)]⟩, fun N hN => ?_⟩
          · obtain ⟨g, rfl⟩ : ∃ g, f = g + 1 := ⟨f - 1, by omega⟩
            show f_X2_readSum_8 rc (g + 1) (o : Int) (v : Int) M = _
            rw [f_X2_readSum_8, if_neg c150, t_fd hC, f_bs, if_pos rfl, if_neg (show ¬ ¬ (0 : Int) = 0 by decide), x1_0 g (by omega), f_bs, if_pos rfl, x1_1 g (by omega), f_bs, if_pos rfl]
          · have hN0 : N 64 5 = 0 := by obtain ⟨b, _, b2, _⟩ := hN; exact b2.2.2.1
            obtain ⟨N_0, n1_0, n2_0, n3_0⟩ := x7_0 o N hN
            obtain ⟨N_1, n1_1, n2_1, n3_1⟩ := x7_1 o N_0 n2_0
            refine ⟨N_1, fun f hf => ?_, n2_1, t_fm.l ((n3_0).tr n3_1)⟩
            obtain ⟨g, rfl⟩ : ∃ g, f = g + 1 := ⟨f - 1, by omega⟩
            show f_X11_sum_4 rm (g + 1) N = _
            rw [f_X11_sum_4, hN0, if_neg (show ¬ ¬ (0 : Int) = 0 by decide), n1_0 g (by omega), f_bs, if_pos rfl, n1_1 g (by omega), f_bs, if_pos rfl]
        · skip
          obtain ⟨a', l', f', p', M', k1, k2, k3, k4, k5⟩ := l_turn (w := 3) he (by decide) hU (ih (v + 1)) x3_1 (show a + 1 ≤ a_1 by have := x6_1 rfl; omega) hp1 hp2 hl (by rw [l_25 ((x4_0).tr x4_1)]; exact hp3)
          refine ⟨a', l', f', p', M', fun f hf => ?_, k2, (t_fC.l ((x4_0).tr x4_1)).tr k3, fun hz => ⟨rfl, by have := k4 hz; omega, (k4 hz).2.1, by rw [(k4 hz).2.2, l_25 ((x4_0).tr x4_1)]⟩, fun N hN => ?_⟩
          · obtain ⟨g, rfl⟩ : ∃ g, f = g + 1 := ⟨f - 1, by omega⟩
            show f_X2_readSum_8 rc (g + 1) (o : Int) (v : Int) M = _
            rw [f_X2_readSum_8, if_neg c150, t_fd hC, f_bs, if_pos rfl, if_neg (show ¬ ¬ (0 : Int) = 0 by decide), x1_0 g (by omega), f_bs, if_pos rfl, x1_1 g (by omega), f_bs, if_neg (show ¬ (1 : Int) = 0 by decide), y_ei (show v < 1000000 by omega)]
            exact k1 g (by omega)
          · have hN0 : N 64 5 = 0 := by obtain ⟨b, _, b2, _⟩ := hN; exact b2.2.2.1
            obtain ⟨N_0, n1_0, n2_0, n3_0⟩ := x7_0 o N hN
            obtain ⟨N_1, n1_1, n2_1, n3_1⟩ := x7_1 o N_0 n2_0
            obtain ⟨N', j1, j2, j3⟩ := k5 N_1 n2_1
            refine ⟨N', fun f hf => ?_, j2, (t_fm.l ((n3_0).tr n3_1)).tr j3⟩
            obtain ⟨g, rfl⟩ : ∃ g, f = g + 1 := ⟨f - 1, by omega⟩
            show f_X11_sum_4 rm (g + 1) N = _
            rw [f_X11_sum_4, hN0, if_neg (show ¬ ¬ (0 : Int) = 0 by decide), n1_0 g (by omega), f_bs, if_pos rfl, n1_1 g (by omega), f_bs, if_neg (show ¬ (1 : Int) = 0 by decide)]
            exact j1 g (by omega)
      · skip
        obtain ⟨a', l', f', p', M', k1, k2, k3, k4, k5⟩ := l_turn (w := 2) he (by decide) hU (ih (v + 1)) x3_0 (show a + 1 ≤ a_0 by have := x6_0 rfl; omega) hp1 hp2 hl (by rw [l_25 (x4_0)]; exact hp3)
        refine ⟨a', l', f', p', M', fun f hf => ?_, k2, (t_fC.l (x4_0)).tr k3, fun hz => ⟨rfl, by have := k4 hz; omega, (k4 hz).2.1, by rw [(k4 hz).2.2, l_25 (x4_0)]⟩, fun N hN => ?_⟩
        · obtain ⟨g, rfl⟩ : ∃ g, f = g + 1 := ⟨f - 1, by omega⟩
          show f_X2_readSum_8 rc (g + 1) (o : Int) (v : Int) M = _
          rw [f_X2_readSum_8, if_neg c150, t_fd hC, f_bs, if_pos rfl, if_neg (show ¬ ¬ (0 : Int) = 0 by decide), x1_0 g (by omega), f_bs, if_neg (show ¬ (1 : Int) = 0 by decide), y_ei (show v < 1000000 by omega)]
          exact k1 g (by omega)
        · have hN0 : N 64 5 = 0 := by obtain ⟨b, _, b2, _⟩ := hN; exact b2.2.2.1
          obtain ⟨N_0, n1_0, n2_0, n3_0⟩ := x7_0 o N hN
          obtain ⟨N', j1, j2, j3⟩ := k5 N_0 n2_0
          refine ⟨N', fun f hf => ?_, j2, (t_fm.l (n3_0)).tr j3⟩
          obtain ⟨g, rfl⟩ : ∃ g, f = g + 1 := ⟨f - 1, by omega⟩
          show f_X11_sum_4 rm (g + 1) N = _
          rw [f_X11_sum_4, hN0, if_neg (show ¬ ¬ (0 : Int) = 0 by decide), n1_0 g (by omega), f_bs, if_neg (show ¬ (1 : Int) = 0 by decide)]
          exact j1 g (by omega)
    · exact flw (j + 1) v a l fl fp M hf h
/-- a unit, then the loop: a product; a product, then the loop: a sum -/
theorem l_two {T : Nat → Int} {e o : Nat} {fc fm : e_M → Option (Int × e_M)} {LC : Nat → Int → e_M → Option (Int × e_M)} {LM : Nat → e_M → Option (Int × e_M)} {F : Nat} (hF : 2000 < F) (he : e ≤ 150) (hU : l_P T e o fc fm) (hL : ∀ j v, l_L T e o j v LC LM) : l_P T e o (fun M => f_b (fc M) fun _ NN => LC F 0 NN) (fun N => f_b (fm N) fun _ NN => LM F NN) := by
  intro a l fl fp M h
  obtain ⟨a1, l1, f1, p1, M1, u1, u2, u3, u4, u5⟩ := hU a l fl fp M h
  obtain ⟨a2, l2, f2, p2, M2, v1, v2, v3, v4, v5⟩ := hL 200 0 a1 l1 f1 p1 M1 (fun hz => by
    obtain ⟨z1, z2, z3, z4⟩ := u4 hz
    exact ⟨by omega, by omega, by omega⟩) u2
  refine ⟨a2, l2, f2, p2, M2, ?_, v2, u3.tr v3, fun hz => ?_, fun N hN => ?_⟩
  · show (f_b (fc M) fun _ NN => LC F 0 NN) = _
    rw [u1, f_bs]; exact v1 F (by omega)
  · obtain ⟨z1, z2, z3, z4⟩ := v4 hz
    obtain ⟨y1, y2, y3, y4⟩ := u4 z1
    exact ⟨y1, by omega, by omega, by omega⟩
  · obtain ⟨N1, g1, g2, g3⟩ := u5 N hN
    obtain ⟨N2, k1, k2, k3⟩ := v5 N1 g2
    refine ⟨N2, ?_, k2, g3.tr k3⟩
    show (f_b (fm N) fun _ NN => LM F NN) = _
    rw [g1, f_bs]; exact k1 F (by omega)
