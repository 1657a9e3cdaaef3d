/-! THE LAW'S TEXT: states of both sides, signs, codes -/
def x_h (c : Nat → Int) : Nat → Nat
  | 0 => 0
  | k + 1 => if c k < 2000 then x_h c k + 1 else x_h c k - 1
theorem x_h_c {c d : Nat → Int} : ∀ {l : Nat}, (∀ k, k < l → c k = d k) → x_h c l = x_h d l
  | 0, _ => rfl
  | l + 1, h => by
    show (if c l < 2000 then x_h c l + 1 else x_h c l - 1) = (if d l < 2000 then x_h d l + 1 else x_h d l - 1)
    rw [h l (by omega), x_h_c (fun k hk => h k (by omega))]
def l_c (l : Nat) (M : e_M) : Prop := M 24 1 = (l : Int) ∧ ∀ k, k < l → 2000 ≤ M 25 k → 2 ≤ x_h (M 25) k
def l_R (l : Nat) (M N : e_M) : Prop := N 64 22 = (l : Int) ∧ ∀ k, k < l → q_cd (M 25 k) (N (275 + k) 0) (N (275 + k) 1)
def l_S (T : Nat → Int) (e a l : Nat) (fl fp : Int) (M : e_M) : Prop := a ≤ e ∧ t_C T e a fl fp M ∧ 0 ≤ M 24 1 ∧ (fl = 0 → fp = -1 ∧ l ≤ a ∧ l_c l M)
def l_N (T : Nat → Int) (e o a l : Nat) (fl fp : Int) (M N : e_M) : Prop := ∃ b, b ≤ e ∧ t_m T e b fl fp N ∧ (fl = 0 → t_s T e b = t_s T e a ∧ N 64 8 = (o : Int) ∧ l_R l M N)
def l_FC (M N : e_M) : Prop := ∀ r j, ¬ (r = 2 ∧ 3 ≤ j ∧ j ≤ 6) → ¬ (r = 24 ∧ j = 1) → r ≠ 25 → N r j = M r j
def l_FN (M N : e_M) : Prop := ∀ r j, ¬ (r = 64 ∧ ((4 ≤ j ∧ j ≤ 6) ∨ j = 8 ∨ j = 22)) → ¬ (275 ≤ r ∧ r ≤ 434) → N r j = M r j
theorem l_FC.rf {M : e_M} : l_FC M M := fun _ _ _ _ _ => rfl
theorem l_FN.rf {M : e_M} : l_FN M M := fun _ _ _ _ => rfl
theorem l_FC.tr {M N P : e_M} (h : l_FC M N) (g : l_FC N P) : l_FC M P := fun a j x y z => (g a j x y z).trans (h a j x y z)
theorem l_FN.tr {M N P : e_M} (h : l_FN M N) (g : l_FN N P) : l_FN M P := fun a j x y => (g a j x y).trans (h a j x y)
theorem t_fC.l {M N : e_M} (h : t_fC M N) : l_FC M N := fun a j x _ _ => h a j x
theorem t_fm.l {M N : e_M} (h : t_fm M N) : l_FN M N := fun a j x _ => h a j (by omega)
theorem l_25 {M N : e_M} (h : t_fC M N) : N 25 = M 25 := funext fun j => h 25 j (by omega)
theorem l_c_f {l : Nat} {M N : e_M} (h : t_fC M N) (k : l_c l M) : l_c l N := by
  unfold l_c
  rw [l_25 h, h 24 1 (by omega)]; exact k
theorem l_R_f {l : Nat} {M M' N N' : e_M} (h : t_fC M M') (g : t_fm N N') (k : l_R l M N) : l_R l M' N' := by
  unfold l_R
  rw [l_25 h, g 64 22 (by omega)]
  refine ⟨k.1, fun i hi => ?_⟩
  rw [g (275 + i) 0 (by omega), g (275 + i) 1 (by omega)]; exact k.2 i hi
/-- a sign that must stand there -/
theorem l_sg {T : Nat → Int} {e : Nat} {c : Int} (hT : ∀ j, j < 600 → 0 ≤ T j ∧ T j ≤ 255) (he : e ≤ 150) (hc : c ≠ -1) {a l : Nat} {fl fp : Int} {M : e_M} (h : l_S T e a l fl fp M) : ∃ (a' : Nat) (fl' fp' : Int) (M' : e_M), (∀ f, 601 < f → f_X7_expectSign f c M = some (0, M')) ∧ l_S T e a' l fl' fp' M' ∧ t_fC M M' ∧ (fl' = 0 → fl = 0 ∧ a + 1 ≤ a') ∧ ∀ (o : Nat) (N : e_M), l_N T e o a l fl fp M N → ∃ N', (∀ f, 601 < f → f_X11_sign f c N = some (0, N')) ∧ l_N T e o a' l fl' fp' M' N' ∧ t_fm N N' := by
  obtain ⟨h1, h2, h3, h4⟩ := h
  obtain ⟨a', fl', fp', M', k1, k2, k3, k4, k5, k6, k7⟩ := x_es (c := c) hT (by omega) hc h1 h2
  refine ⟨a', fl', fp', M', k1, ⟨k4, k2, by rw [k5 24 1 (by omega)]; exact h3, fun hz => ?_⟩, k5, fun hz => ⟨(k6 hz).1, (k6 hz).2.2⟩, fun o N hN => ?_⟩
  · obtain ⟨z1, z2, z3⟩ := k6 hz
    obtain ⟨y1, y2, y3⟩ := h4 z1
    exact ⟨by rw [z2]; exact y1, by omega, l_c_f k5 y3⟩
  · obtain ⟨b, b1, b2, b3⟩ := hN
    by_cases hf : fl = 0
    · subst hf
      obtain ⟨b4, b5, b6⟩ := b3 rfl
      obtain ⟨N', n1, n2, n3⟩ := t_ms (c := c) hT (by omega) b1 b2
      obtain ⟨M'', m1, m2, m3⟩ := t_es (c := c) hT (by omega) h1 h2
      have e1 : (0 : Int) < 1 := by decide
      have hM : M' = M'' := by
        have := (k1 602 (by omega)).symm.trans (m1 602 (by omega))
        exact (Prod.mk.inj (Option.some.inj this)).2
      subst hM
      have q1 : (a' : Int) = (t_ga T e c (t_s T e a) : Int) := k2.2.1.symm.trans m2.2.1
      have q2 : fl' = t_gf T e c (t_s T e a) := k2.2.2.1.symm.trans m2.2.2.1
      have q3 : fp' = (if t_gf T e c (t_s T e a) = 0 then fp else (t_s T e a : Int)) := k2.2.2.2.1.symm.trans m2.2.2.2.1
      rw [b4] at n2
      refine ⟨N', n1, ⟨a', k4, ?_, fun hz => ⟨rfl, by rw [n3 64 8 (by omega)]; exact b5, l_R_f k5 n3 b6⟩⟩, n3⟩
      rw [show a' = t_ga T e c (t_s T e a) by omega, q2, q3]; exact n2
    · have z : fl' = fl ∧ fp' = fp := by
        have := (k1 602 (by omega)).symm.trans (t_es2 hf h2)
        have hM : M' = M := (Prod.mk.inj (Option.some.inj this)).2
        subst hM
        exact ⟨k2.2.2.1.symm.trans h2.2.2.1, k2.2.2.2.1.symm.trans h2.2.2.2.1⟩
      obtain ⟨rfl, rfl⟩ := z
      exact ⟨N, fun f _ => t_ms2 hf b2, ⟨b, b1, b2, fun hz => absurd hz hf⟩, t_fm.rf⟩
/-- a sign that may stand there -/
theorem l_tk {T : Nat → Int} {e : Nat} {c : Int} (hT : ∀ j, j < 600 → 0 ≤ T j ∧ T j ≤ 255) (he : e ≤ 150) (hc : c ≠ -1) {a l : Nat} {M : e_M} (h : l_S T e a l 0 (-1) M) : ∃ (r : Int) (a' : Nat) (M' : e_M), (∀ f, 601 < f → f_X7_takeSign f c M = some (r, M')) ∧ (r = 0 ∨ r = 1) ∧ l_S T e a' l 0 (-1) M' ∧ t_fC M M' ∧ a ≤ a' ∧ (r = 1 → a + 1 ≤ a') ∧ ∀ (o : Nat) (N : e_M), l_N T e o a l 0 (-1) M N → ∃ N', (∀ f, 601 < f → f_X11_takesSign f c N = some (r, N')) ∧ l_N T e o a' l 0 (-1) M' N' ∧ t_fm N N' := by
  obtain ⟨h1, h2, h3, h4⟩ := h
  obtain ⟨_, y2, y3⟩ := h4 rfl
  obtain ⟨M1, k1, k2, k3⟩ := t_peek hT (by omega) (e - a) a 0 (-1) M rfl h1 h2
  have hsp := t_s_p (T := T) (e - a) a rfl
  have hs := hsp.2.1 h1
  have hs1 := hsp.1
  by_cases d : t_b T e (t_s T e a) = c
  · have hlt : t_s T e a < e := by
      refine Classical.byContradiction fun hg => ?_
      unfold t_b at d
      rw [if_neg hg] at d
      exact hc d.symm
    obtain ⟨c1, c2⟩ := t_C_at (b := t_s T e a + 1) k2
    refine ⟨1, t_s T e a + 1, _, fun f hf => ?_, Or.inr rfl, ⟨by omega, c1, by rw [(k3.tr c2) 24 1 (by omega)]; exact h3, fun _ => ⟨rfl, by omega, l_c_f (k3.tr c2) y3⟩⟩, k3.tr c2, by omega, fun _ => by omega, fun o N hN => ?_⟩
    · unfold f_X7_takeSign
      rw [h2.2.2.1, if_neg (show ¬ ¬ (0 : Int) = 0 by decide), k1 f (by omega), f_bs, if_pos d, k2.2.1, y_ei (by omega)]
    · obtain ⟨b, b1, b2, b3⟩ := hN
      obtain ⟨b4, b5, b6⟩ := b3 rfl
      obtain ⟨N1, n1, n2, n3⟩ := t_bl hT (by omega) (e - b) b 0 (-1) N rfl b1 b2
      rw [b4] at n2
      obtain ⟨d1, d2⟩ := t_m_at (b := t_s T e a + 1) n2
      refine ⟨_, fun f hf => ?_, ⟨t_s T e a + 1, by omega, d1, fun _ => ⟨rfl, by rw [(n3.tr d2) 64 8 (by omega)]; exact b5, l_R_f (k3.tr c2) (n3.tr d2) b6⟩⟩, n3.tr d2⟩
      unfold f_X11_takesSign
      rw [b2.2.2.1, if_pos rfl, n1 f (by omega), f_bs, n2.2.1, t_by hT (by omega) hs n2, f_bs, if_neg (not_not_intro d), n2.2.1, y_ei (by omega)]
  · refine ⟨0, t_s T e a, M1, fun f hf => ?_, Or.inl rfl, ⟨hs, k2, by rw [k3 24 1 (by omega)]; exact h3, fun _ => ⟨rfl, by omega, l_c_f k3 y3⟩⟩, k3, hs1, fun h => absurd h (by decide), fun o N hN => ?_⟩
    · unfold f_X7_takeSign
      rw [h2.2.2.1, if_neg (show ¬ ¬ (0 : Int) = 0 by decide), k1 f (by omega), f_bs, if_neg d]
    · obtain ⟨b, b1, b2, b3⟩ := hN
      obtain ⟨b4, b5, b6⟩ := b3 rfl
      obtain ⟨N1, n1, n2, n3⟩ := t_bl hT (by omega) (e - b) b 0 (-1) N rfl b1 b2
      rw [b4] at n2
      refine ⟨N1, fun f hf => ?_, ⟨t_s T e a, hs, n2, fun _ => ⟨rfl, by rw [n3 64 8 (by omega)]; exact b5, l_R_f k3 n3 b6⟩⟩, n3⟩
      unfold f_X11_takesSign
      rw [b2.2.2.1, if_pos rfl, n1 f (by omega), f_bs, n2.2.1, t_by hT (by omega) hs n2, f_bs, if_pos d]
/-- a code is put down -/
theorem l_em {T : Nat → Int} {e : Nat} {c w v : Int} (he : e ≤ 150) {a l : Nat} {fl fp : Int} {M : e_M} (h : l_S T e a l fl fp M) (hq : fl = 0 → l + 1 ≤ a ∧ q_cd c w v ∧ (2 ≤ w → 2 ≤ x_h (M 25) l)) : ∃ (l' : Nat) (M' : e_M), f_X2_emit_lawDraft c M = some (0, M') ∧ l_S T e a l' fl fp M' ∧ l_FC M M' ∧ (fl = 0 → l' = l + 1 ∧ x_h (M' 25) (l + 1) = if w < 2 then x_h (M 25) l + 1 else x_h (M 25) l - 1) ∧ ∀ (o : Nat) (N : e_M), l_N T e o a l fl fp M N → ∃ N', f_X11_notes w v N = some (0, N') ∧ l_N T e o a l' fl fp M' N' ∧ l_FN N N' := by
  obtain ⟨h1, h2, h3, h4⟩ := h
  by_cases hf : fl = 0
  · subst hf
    obtain ⟨y1, y2, y3, y4⟩ := h4 rfl
    obtain ⟨q1, q2, q3⟩ := hq rfl
    have e25 : ∀ k, (e_up (e_up M 25 l c) 24 1 ((l + 1 : Nat) : Int)) 25 k = if k = l then c else M 25 k := fun k => by rw [u_r (by decide), u_i]
    have hh : ∀ k, k ≤ l → x_h ((e_up (e_up M 25 l c) 24 1 ((l + 1 : Nat) : Int)) 25) k = x_h (M 25) k := fun k hk => x_h_c (fun i hi => by rw [e25, if_neg (by omega)])
    have hc2 : c < 2000 ↔ w < 2 := by unfold q_cd at q2; omega
    refine ⟨l + 1, e_up (e_up M 25 l c) 24 1 ((l + 1 : Nat) : Int), ?_, ⟨h1, t_C_u (by decide) (by decide) (t_C_u (by decide) (by decide) h2), by rw [u_s]; omega, fun _ => ⟨y1, by omega, u_s _ _ _ _, fun k hk hk2 => ?_⟩⟩, fun r j g1 g2 g3 => ?_, fun _ => ⟨rfl, ?_⟩, fun o N hN => ?_⟩
    · unfold f_X2_emit_lawDraft
      rw [y3, if_neg (show ¬ (150 : Int) ≤ (l : Int) by omega), if_pos (show 0 ≤ (l : Int) ∧ (l : Int) < 150 by omega), Int.toNat_natCast, u_r (show (24 : Nat) ≠ 25 by decide), y3, y_ei (by omega)]
    · rw [e25] at hk2
      rw [hh k (by omega)]
      by_cases ek : k = l
      · rw [if_pos ek] at hk2
        rw [ek]; exact q3 (by omega)
      · rw [if_neg ek] at hk2
        exact y4 k (by omega) hk2
    · by_cases er : r = 24
      · subst er; rw [u_c (by omega), u_r (by omega)]
      · rw [u_r er, u_r g3]
    · show (if _ < 2000 then x_h _ l + 1 else x_h _ l - 1) = _
      rw [e25, if_pos rfl, hh l (Nat.le_refl _)]
      by_cases d : w < 2
      · rw [if_pos (hc2.mpr d), if_pos d]
      · rw [if_neg (fun x => d (hc2.mp x)), if_neg d]
    · obtain ⟨b, b1, b2, b3⟩ := hN
      obtain ⟨b4, b5, b6, b7⟩ := b3 rfl
      refine ⟨e_up (e_up (e_up N (275 + l) 0 w) (275 + l) 1 v) 64 22 ((l + 1 : Nat) : Int), ?_, ⟨b, b1, t_m_v (by decide) (t_m_u (by omega) (by omega) (t_m_u (by omega) (by omega) b2)), fun _ => ⟨b4, ?_, u_s _ _ _ _, fun k hk => ?_⟩⟩, fun r j g1 g2 => ?_⟩
      · unfold f_X11_notes
        have e1 : (e_up N (275 + l) 0 w) 64 22 = (l : Int) := by rw [u_r (by omega)]; exact b6
        have e2 : (e_up (e_up N (275 + l) 0 w) (275 + l) 1 v) 64 22 = (l : Int) := by rw [u_r (by omega)]; exact e1
        rw [b2.2.2.1, if_pos rfl, b6, if_pos (show 0 ≤ (l : Int) ∧ (l : Int) < 160 by omega), Int.toNat_natCast, e1, if_pos (show 0 ≤ (l : Int) ∧ (l : Int) < 160 by omega), Int.toNat_natCast, e2, y_ei (by omega)]
      · rw [u_c (by decide), u_r (by omega), u_r (by omega)]; exact b5
      · rw [e25]
        by_cases ek : k = l
        · subst ek
          rw [if_pos rfl, u_r (by omega), u_c (by decide), u_s, u_r (by omega), u_s]; exact q2
        · rw [if_neg ek, u_r (by omega), u_r (by omega), u_r (by omega), u_r (by omega), u_r (by omega), u_r (by omega)]; exact b7 k (by omega)
      · by_cases er : r = 64
        · subst er; rw [u_c (by omega), u_r (by omega), u_r (by omega)]
        · rw [u_r er, u_r (by omega), u_r (by omega)]
  · have mod : ∀ (o l' : Nat) (M' N : e_M), l_N T e o a l fl fp M N → ∃ N', f_X11_notes w v N = some (0, N') ∧ l_N T e o a l' fl fp M' N' ∧ l_FN N N' := fun o l' M' N hN => by
      obtain ⟨b, b1, b2, b3⟩ := hN
      refine ⟨N, ?_, ⟨b, b1, b2, fun hz => absurd hz hf⟩, l_FN.rf⟩
      unfold f_X11_notes
      rw [b2.2.2.1, if_neg hf]
    by_cases d : 150 ≤ M 24 1
    · refine ⟨l, M, ?_, ⟨h1, h2, h3, fun hz => absurd hz hf⟩, l_FC.rf, fun hz => absurd hz hf, fun o N hN => mod o l M N hN⟩
      unfold f_X2_emit_lawDraft
      rw [if_pos d]
    · refine ⟨l, e_up (e_up M 25 (M 24 1).toNat c) 24 1 (M 24 1 + 1), ?_, ⟨h1, t_C_u (by decide) (by decide) (t_C_u (by decide) (by decide) h2), by rw [u_s]; omega, fun hz => absurd hz hf⟩, fun r j g1 g2 g3 => ?_, fun hz => absurd hz hf, fun o N hN => mod o l _ N hN⟩
      · unfold f_X2_emit_lawDraft
        rw [if_neg d, if_pos (show 0 ≤ M 24 1 ∧ M 24 1 < 150 by omega), u_r (show (24 : Nat) ≠ 25 by decide), e_ws_ (x := M 24 1 + 1) (by omega) (by omega)]
      · by_cases er : r = 24
        · subst er; rw [u_c (by omega), u_r (by omega)]
        · rw [u_r er, u_r g3]
