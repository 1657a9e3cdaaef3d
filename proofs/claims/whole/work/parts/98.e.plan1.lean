/-! A WORK'S TEXT: what is read, and loops -/
theorem x_es2 {T : Nat → Int} {e : Nat} {c : Int} (hT : ∀ j, j < 600 → 0 ≤ T j ∧ T j ≤ 255) (he : e ≤ 600) (hc : c ≠ -1) {a : Nat} {fl fp : Int} {M : e_M} (ha : a ≤ e) (h : t_C T e a fl fp M) : ∃ (a' : Nat) (fl' fp' : Int) (M' : e_M), (∀ f, 601 < f → f_X7_expectSign f c M = some (0, M')) ∧ t_C T e a' fl' fp' M' ∧ a' ≤ e ∧ t_fC M M' ∧ (fl' = 0 → fl = 0 ∧ fp' = fp ∧ a + 1 ≤ a') ∧ ∀ (b : Nat) (N : e_M), b ≤ e → (fl = 0 → b = a) → t_m T e b fl fp N → ∃ (b' : Nat) (N' : e_M), (∀ f, 601 < f → f_X11_sign f c N = some (0, N')) ∧ b' ≤ e ∧ (fl' = 0 → b' = a') ∧ t_m T e b' fl' fp' N' ∧ t_fm N N' := by
  by_cases hf : fl = 0
  · obtain ⟨a', fl', fp', M', k1, k2, k3, k4, k5, k6, k7⟩ := x_es (c := c) hT he hc ha h
    refine ⟨a', fl', fp', M', k1, k2, k4, k5, k6, fun b N h1 h2 h3 => ?_⟩
    rw [h2 hf] at h3
    obtain ⟨N', n1, n2, n3⟩ := k7 N h3
    exact ⟨a', N', n1, k4, fun _ => rfl, n2, n3⟩
  · exact ⟨a, fl, fp, M, fun f _ => t_es2 hf h, h, ha, t_fC.rf, fun hz => absurd hz hf, fun b N h1 _ h3 => ⟨b, N, fun f _ => t_ms2 hf h3, h1, fun hz => absurd hz hf, h3, t_fm.rf⟩⟩
def p_ok (n t : Nat) (k v : Int) : Prop := ((k = 0 ∨ k = 1) ∧ 0 ≤ v ∧ v < (n : Int)) ∨ (k = 2 ∧ 0 ≤ v ∧ v < (t : Int)) ∨ k = 3
/-- steps i .. j, loops in them at most d deep -/
def p_W (n t : Nat) (M : e_M) : Nat → Nat → Nat → Nat → Prop
  | 0, _, i, j => i = j
  | u + 1, d, i, j => i = j ∨ ∃ i' : Nat, i < i' ∧ i' ≤ j ∧ M 35 i = (i' : Int) ∧ ((i' = i + 1 ∧ p_ok n t (M 33 i) (M 34 i)) ∨ (M 33 i = 4 ∧ 0 ≤ M 34 i ∧ M 34 i ≤ 60 ∧ ∃ d', d = d' + 1 ∧ p_W n t M u d' (i + 1) i')) ∧ p_W n t M u d i' j
def p_S (n t : Nat) (M : e_M) (d i j : Nat) : Prop := ∀ u, j - i ≤ u → p_W n t M u d i j
def p_1 (n t : Nat) (M : e_M) (d i i' : Nat) : Prop := i < i' ∧ M 35 i = (i' : Int) ∧ ((i' = i + 1 ∧ p_ok n t (M 33 i) (M 34 i)) ∨ (M 33 i = 4 ∧ 0 ≤ M 34 i ∧ M 34 i ≤ 60 ∧ ∃ d', d = d' + 1 ∧ p_S n t M d' (i + 1) i'))
theorem p_W_c {n t : Nat} {M N : e_M} : ∀ (u d i j : Nat), (∀ k, i ≤ k → k < j → N 33 k = M 33 k ∧ N 34 k = M 34 k ∧ N 35 k = M 35 k) → p_W n t M u d i j → p_W n t N u d i j
  | 0, _, _, _, _, h => h
  | u + 1, d, i, j, hk, h => by
    rcases h with h | ⟨i', h1, h2, h3, h4, h5⟩
    · exact Or.inl h
    · obtain ⟨e1, e2, e3⟩ := hk i (Nat.le_refl _) (by omega)
      refine Or.inr ⟨i', h1, h2, by rw [e3]; exact h3, ?_, p_W_c u d i' j (fun k g1 g2 => hk k (by omega) g2) h5⟩
      rw [e1, e2]
      rcases h4 with h4 | ⟨g1, g2, g3, d', g4, g5⟩
      · exact Or.inl h4
      · exact Or.inr ⟨g1, g2, g3, d', g4, p_W_c u d' (i + 1) i' (fun k y1 y2 => hk k (by omega) (by omega)) g5⟩
theorem p_S_c {n t d i j : Nat} {M N : e_M} (hk : ∀ k, i ≤ k → k < j → N 33 k = M 33 k ∧ N 34 k = M 34 k ∧ N 35 k = M 35 k) (h : p_S n t M d i j) : p_S n t N d i j := fun u hu => p_W_c u d i j hk (h u hu)
theorem p_1_c {n t d i j : Nat} {M N : e_M} (hk : ∀ k, i ≤ k → k < j → N 33 k = M 33 k ∧ N 34 k = M 34 k ∧ N 35 k = M 35 k) (h : p_1 n t M d i j) : p_1 n t N d i j := by
  obtain ⟨h1, h2, h3⟩ := h
  obtain ⟨e1, e2, e3⟩ := hk i (Nat.le_refl _) h1
  refine ⟨h1, by rw [e3]; exact h2, ?_⟩
  rw [e1, e2]
  rcases h3 with h3 | ⟨g1, g2, g3, d', g4, g5⟩
  · exact Or.inl h3
  · exact Or.inr ⟨g1, g2, g3, d', g4, p_S_c (fun k y1 y2 => hk k (by omega) y2) g5⟩
theorem p_S_0 {n t d i : Nat} {M : e_M} : p_S n t M d i i := fun u _ => by
  cases u with
  | zero => exact rfl
  | succ u => exact Or.inl rfl
theorem p_S_1 {n t d i i' j : Nat} {M : e_M} (h : p_1 n t M d i i') (g : p_S n t M d i' j) (hj : i' ≤ j) : p_S n t M d i j := fun u hu => by
  obtain ⟨h1, h2, h3⟩ := h
  obtain ⟨u', rfl⟩ : ∃ u', u = u' + 1 := ⟨u - 1, by omega⟩
  refine Or.inr ⟨i', h1, hj, h2, ?_, g u' (by omega)⟩
  rcases h3 with h3 | ⟨g1, g2, g3, d', g4, g5⟩
  · exact Or.inl h3
  · exact Or.inr ⟨g1, g2, g3, d', g4, g5 u' (by omega)⟩
def p_E (M N : e_M) (i j : Nat) : Prop := ∀ k, i ≤ k → k < j → N (452 + k) 0 = M 33 k ∧ (M 33 k ≠ 3 → N (452 + k) 1 = M 34 k) ∧ N (452 + k) 3 = M 35 k
def p_FC (l : Nat) (M N : e_M) : Prop := ∀ r j, ¬ (r = 2 ∧ 3 ≤ j ∧ j ≤ 6) → ¬ (r = 32 ∧ j = 0) → ¬ (33 ≤ r ∧ r ≤ 35 ∧ l ≤ j) → N r j = M r j
def p_FN (l : Nat) (M N : e_M) : Prop := ∀ r j, ¬ (r = 64 ∧ ((4 ≤ j ∧ j ≤ 6) ∨ j = 8 ∨ j = 30)) → ¬ (452 + l ≤ r ∧ r ≤ 531) → N r j = M r j
theorem p_FC.tr {l l' : Nat} {M N P : e_M} (hl : l ≤ l') (h : p_FC l M N) (g : p_FC l' N P) : p_FC l M P := fun r j x y z => (g r j x y (by omega)).trans (h r j x y z)
theorem p_FN.tr {l l' : Nat} {M N P : e_M} (hl : l ≤ l') (h : p_FN l M N) (g : p_FN l' N P) : p_FN l M P := fun r j x y => (g r j x (by omega)).trans (h r j x y)
theorem t_fC.p {l : Nat} {M N : e_M} (h : t_fC M N) : p_FC l M N := fun r j x _ _ => h r j x
theorem t_fm.p {l : Nat} {M N : e_M} (h : t_fm M N) : p_FN l M N := fun r j x _ => h r j (by omega)
def p_C (T : Nat → Int) (e n t a l : Nat) (M : e_M) : Prop := a ≤ e ∧ t_C T e a 0 (-1) M ∧ M 32 0 = (l : Int) ∧ 5 * l ≤ a ∧ M 4 0 = (n : Int) ∧ M 4 2 = (t : Int)
def p_N (T : Nat → Int) (e n t o a l : Nat) (N : e_M) : Prop := t_m T e a 0 (-1) N ∧ N 64 30 = (l : Int) ∧ N 64 8 = (o : Int) ∧ N 68 0 = (n : Int) ∧ N 68 2 = (t : Int)
/-- one step with its semicolon, both sides -/
def p_Q (T : Nat → Int) (e n t o : Nat) (rc : e_M → Option (Int × e_M)) (rm : Nat → e_M → Option (Int × e_M)) : Prop := ∀ (s l : Nat) (M : e_M), t_s T e s = s → p_C T e n t s l M → ∃ (a' l' : Nat) (fl fp : Int) (M' : e_M), (∀ f, 601 < f → (f_b (rc M) fun _ NN => f_X7_expectSign f 59 NN) = some (0, M')) ∧ a' ≤ e ∧ t_C T e a' fl fp M' ∧ (fl = 0 → fp = -1 ∧ M' 32 0 = (l' : Int) ∧ 5 * l' ≤ a' ∧ s + 5 ≤ a' ∧ p_1 n t M' (6 - o) l l') ∧ p_FC l M M' ∧ ∀ N, p_N T e n t o s l N → ∀ G, 2000 < G → ∃ (b : Nat) (N' : e_M), rm G N = some (0, N') ∧ b ≤ e ∧ t_m T e b fl fp N' ∧ (fl = 0 → b = a' ∧ N' 64 30 = (l' : Int) ∧ N' 64 8 = (o : Int) ∧ p_E M' N' l l') ∧ p_FN l N N'
def p_L {ι : Type} (ok : ι → Prop) (T : Nat → Int) (e n t o j a l v : Nat) (B : Nat) (LC : Nat → Int → e_M → Option (Int × e_M)) (LM X : ι → Nat → e_M → Option (Int × e_M)) (M : e_M) : Prop := ∃ (a' l' : Nat) (fl fp : Int) (M' : e_M), (∀ f, j + 620 < f → LC f (v : Int) M = some (0, M')) ∧ a' ≤ e ∧ t_C T e a' fl fp M' ∧ (fl = 0 → fp = -1 ∧ M' 32 0 = (l' : Int) ∧ 5 * l' ≤ a' ∧ a ≤ a' ∧ l ≤ l' ∧ p_S n t M' (6 - o) l l') ∧ p_FC l M M' ∧ ∀ N, p_N T e n t o (t_s T e a) l N → ∀ (G : ι) (f : Nat), ok G → j + B < f → ∃ (b g : Nat) (N' : e_M), 610 < g ∧ f ≤ g + j + 1 ∧ LM G f N = X G g N' ∧ b ≤ e ∧ t_m T e b fl fp N' ∧ (fl = 0 → b = a' ∧ N' 64 30 = (l' : Int) ∧ N' 64 8 = (o : Int) ∧ p_E M' N' l l') ∧ p_FN l N N'
theorem p_lup {ι : Type} {ok : ι → Prop} {T : Nat → Int} {e n t o B : Nat} {rc : e_M → Option (Int × e_M)} {rm : Nat → e_M → Option (Int × e_M)} {LC : Nat → Int → e_M → Option (Int × e_M)} {LM X : ι → Nat → e_M → Option (Int × e_M)} {stop : Nat → Bool} {φ : ι → Nat → Nat} (hB : 620 ≤ B) (hφ2 : ∀ G f, ok G → B < f → 2000 < φ G f) (hT : ∀ j, j < 600 → 0 ≤ T j ∧ T j ≤ 255) (he : e ≤ 150) (hQ : p_Q T e n t o rc rm)
    (H1 : ∀ (a : Nat) (M : e_M), a ≤ e → t_C T e a 0 (-1) M → ∃ M1, t_C T e (t_s T e a) 0 (-1) M1 ∧ t_fC M M1 ∧ ∀ (f v : Nat), 601 < f → v ≤ 30 → LC (f + 1) (v : Int) M = if stop (t_s T e a) = true then some (0, M1) else f_b (rc M1) fun _ NN => f_b (f_X7_expectSign f 59 NN) fun _ N2 => LC f ((v + 1 : Nat) : Int) N2)
    (H2 : ∀ (a : Nat) (fl fp : Int) (M : e_M) (f : Nat) (v : Int), fl ≠ 0 → t_C T e a fl fp M → LC (f + 1) v M = some (0, M))
    (H3 : ∀ (s : Nat) (N : e_M), s ≤ e → t_m T e s 0 (-1) N → ∀ (G : ι) (f : Nat), LM G (f + 1) N = if stop s = true then X G f N else f_b (rm (φ G f) N) fun _ NN => f_b (f_X11_blanks f NN) fun _ P => LM G f P)
    (H4 : ∀ (N : e_M) (G : ι) (f : Nat), N 64 5 ≠ 0 → LM G (f + 1) N = X G f N) : ∀ (j a l v : Nat) (M : e_M), j ≤ 200 → e - a < j → v ≤ l → p_C T e n t a l M → p_L ok T e n t o j a l v B LC LM X M := by
  intro j
  induction j with
  | zero => intro a l v M _ h; exact absurd h (by omega)
  | succ j ih =>
    intro a l v M hj hja hv hC
    obtain ⟨c1, c2, c3, c4, c5, c6⟩ := hC
    obtain ⟨M1, k1, k2, k3⟩ := H1 a M c1 c2
    have hsp := t_s_p (T := T) (e - a) a rfl
    have hs := hsp.2.1 c1
    have hs1 := hsp.1
    have hss : t_s T e (t_s T e a) = t_s T e a := t_ss
    unfold p_L
    generalize t_s T e a = s at *
    by_cases st : stop s = true
    · refine ⟨s, l, 0, -1, M1, fun f hf => ?_, hs, k1, fun _ => ⟨rfl, by rw [k2 32 0 (by omega)]; exact c3, by omega, hs1, Nat.le_refl _, p_S_0⟩, k2.p, fun N hN G f hG hf => ⟨s, f - 1, N, by omega, by omega, ?_, hs, hN.1, fun _ => ⟨rfl, hN.2.1, hN.2.2.1, fun k h1 h2 => absurd h2 (by omega)⟩, fun _ _ _ _ => rfl⟩⟩
      · obtain ⟨g, rfl⟩ : ∃ g, f = g + 1 := ⟨f - 1, by omega⟩
        rw [k3 g v (by omega) (by omega), if_pos st]
      · obtain ⟨g, rfl⟩ : ∃ g, f = g + 1 := ⟨f - 1, by omega⟩
        rw [H3 s N hs hN.1 G g, if_pos st]; rfl
    · obtain ⟨a', l', fl, fp, M', q1, q2, q3, q4, q5, q6⟩ := hQ s l M1 hss ⟨hs, k1, by rw [k2 32 0 (by omega)]; exact c3, by omega, by rw [k2 4 0 (by omega)]; exact c5, by rw [k2 4 2 (by omega)]; exact c6⟩
      by_cases hf : fl = 0
      · subst hf
        obtain ⟨z1, z2, z3, z4, z5⟩ := q4 rfl
        subst z1
        have zl := z5.1
        obtain ⟨a2, l2, f2, p2, M2, r1, r2, r3, r4, r5, r6⟩ := ih a' l' (v + 1) M' (by omega) (by omega) (by omega) ⟨q2, q3, z2, z3, by rw [q5 4 0 (by omega) (by omega) (by omega), k2 4 0 (by omega)]; exact c5, by rw [q5 4 2 (by omega) (by omega) (by omega), k2 4 2 (by omega)]; exact c6⟩
        refine ⟨a2, l2, f2, p2, M2, fun f hf => ?_, r2, r3, fun hz => ?_, p_FC.tr (Nat.le_refl _) k2.p (p_FC.tr (by omega) q5 r5), fun N hN G f hG hf => ?_⟩
        · obtain ⟨g, rfl⟩ : ∃ g, f = g + 1 := ⟨f - 1, by omega⟩
          rw [k3 g v (by omega) (by omega), if_neg st, x_ba, q1 g (by omega), f_bs]
          exact r1 g (by omega)
        · obtain ⟨y1, y2, y3, y4, y5, y6⟩ := r4 hz
          refine ⟨y1, y2, y3, by omega, by omega, p_S_1 (p_1_c (fun k g1 g2 => ?_) z5) y6 y5⟩
          exact ⟨r5 33 k (by omega) (by omega) (by omega), r5 34 k (by omega) (by omega) (by omega), r5 35 k (by omega) (by omega) (by omega)⟩
        · obtain ⟨g, rfl⟩ : ∃ g, f = g + 1 := ⟨f - 1, by omega⟩
          obtain ⟨b, N1, n1, n2, n3, n4, n5⟩ := q6 N hN (φ G g) (hφ2 G g hG (by omega))
          obtain ⟨o1, o2, o3, o4⟩ := n4 rfl
          subst o1
          obtain ⟨N2, w1, w2, w3⟩ := t_bl hT (by omega) (e - b) b 0 (-1) N1 rfl n2 n3
          obtain ⟨b2, g2, N3, g3, g4, g5, v2, v3, v4, v5⟩ := r6 N2 ⟨w2, by rw [w3 64 30 (by omega)]; exact o2, by rw [w3 64 8 (by omega)]; exact o3, by rw [w3 68 0 (by omega), n5 68 0 (by omega) (by omega)]; exact hN.2.2.2.1, by rw [w3 68 2 (by omega), n5 68 2 (by omega) (by omega)]; exact hN.2.2.2.2⟩ G g hG (by omega)
          refine ⟨b2, g2, N3, g3, by omega, ?_, v2, v3, fun hz => ?_, p_FN.tr (by omega) n5 (p_FN.tr (Nat.le_refl _) w3.p v5)⟩
          · rw [H3 s N hs hN.1 G g, if_neg st, n1, f_bs, w1 g (by omega), f_bs]; exact g5
          · obtain ⟨y1, y2, y3, y4⟩ := v4 hz
            refine ⟨y1, y2, y3, fun k g1 g2 => ?_⟩
            by_cases d : k < l'
            · obtain ⟨x1, x2, x3⟩ := o4 k g1 d
              have h30 : l2 ≤ 30 := by have := (r4 hz).2.2.1; omega
              rw [v5 _ 0 (by omega) (by omega), v5 _ 1 (by omega) (by omega), v5 _ 3 (by omega) (by omega), w3 _ 0 (by omega), w3 _ 1 (by omega), w3 _ 3 (by omega), r5 33 k (by omega) (by omega) (by omega), r5 34 k (by omega) (by omega) (by omega), r5 35 k (by omega) (by omega) (by omega)]
              exact ⟨x1, x2, x3⟩
            · exact y4 k (by omega) g2
      · refine ⟨a', l', fl, fp, M', fun f hf2 => ?_, q2, q3, fun hz => absurd hz hf, p_FC.tr (Nat.le_refl _) k2.p q5, fun N hN G f hG hf2 => ?_⟩
        · obtain ⟨g, rfl⟩ : ∃ g, f = g + 1 := ⟨f - 1, by omega⟩
          obtain ⟨g', rfl⟩ : ∃ g', g = g' + 1 := ⟨g - 1, by omega⟩
          rw [k3 (g' + 1) v (by omega) (by omega), if_neg st, x_ba, q1 (g' + 1) (by omega), f_bs]
          exact H2 a' fl fp M' g' _ hf q3
        · obtain ⟨g, rfl⟩ : ∃ g, f = g + 1 := ⟨f - 1, by omega⟩
          obtain ⟨g', rfl⟩ : ∃ g', g = g' + 1 := ⟨g - 1, by omega⟩
          obtain ⟨b, N1, n1, n2, n3, n4, n5⟩ := q6 N hN (φ G (g' + 1)) (hφ2 G (g' + 1) hG (by omega))
          obtain ⟨N2, w1, w2, w3⟩ := t_bl hT (by omega) (e - b) b fl fp N1 rfl n2 n3
          refine ⟨t_s T e b, g', N2, by omega, by omega, ?_, (t_s_p (T := T) (e - b) b rfl).2.1 n2, w2, fun hz => absurd hz hf, p_FN.tr (Nat.le_refl _) n5 w3.p⟩
          rw [H3 s N hs hN.1 G (g' + 1), if_neg st, n1, f_bs, w1 (g' + 1) (by omega), f_bs]
          exact H4 N2 G g' (by rw [w2.2.2.1]; exact hf)
