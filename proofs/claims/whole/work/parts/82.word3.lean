/-! TEXTS, 6: the words of a law and of a work; a word is read -/
def t_i2 (T : Nat → Int) (s E : Nat) : Int := if t_mt 2 T s E 0 4 = true then 0 else if t_mt 2 T s E 5 4 = true then 1 else if t_mt 2 T s E 10 7 = true then 2 else if t_mt 2 T s E 18 5 = true then 3 else if t_mt 2 T s E 24 4 = true then 4 else if t_mt 2 T s E 29 6 = true then 5 else if t_mt 2 T s E 36 5 = true then 6 else if t_mt 2 T s E 42 6 = true then 7 else if t_mt 2 T s E 49 5 = true then 8 else if t_mt 2 T s E 55 4 = true then 9 else -1
theorem t_iw2 {T : Nat → Int} {s E : Nat} {M : e_M} (hT : ∀ j, j < 600 → 0 ≤ T j ∧ T j ≤ 255) (h3 : ∀ p, p < 600 → M 3 p = q_sb (T p)) (hE : E ≤ 600) (hs : s ≤ E) : ∀ f, 80 < f → f_ia 2 f (s : Int) (E : Int) 0 (s : Int) 1 0 M = some (t_i2 T s E, M) := by
  intro f hf
  have w0 := t_ia1 (j := 2) hT h3 hE hs 4 0 (by decide) (by decide) (by decide) 0 (by decide) (f) (by omega)
  have w1 := t_ia1 (j := 2) hT h3 hE hs 4 5 (by decide) (by decide) (by decide) 1 (by decide) (f - 5) (by omega)
  have w2 := t_ia1 (j := 2) hT h3 hE hs 7 10 (by decide) (by decide) (by decide) 2 (by decide) (f - 5 - 5) (by omega)
  have w3 := t_ia1 (j := 2) hT h3 hE hs 5 18 (by decide) (by decide) (by decide) 3 (by decide) (f - 5 - 5 - 8) (by omega)
  have w4 := t_ia1 (j := 2) hT h3 hE hs 4 24 (by decide) (by decide) (by decide) 4 (by decide) (f - 5 - 5 - 8 - 6) (by omega)
  have w5 := t_ia1 (j := 2) hT h3 hE hs 6 29 (by decide) (by decide) (by decide) 5 (by decide) (f - 5 - 5 - 8 - 6 - 5) (by omega)
  have w6 := t_ia1 (j := 2) hT h3 hE hs 5 36 (by decide) (by decide) (by decide) 6 (by decide) (f - 5 - 5 - 8 - 6 - 5 - 7) (by omega)
  have w7 := t_ia1 (j := 2) hT h3 hE hs 6 42 (by decide) (by decide) (by decide) 7 (by decide) (f - 5 - 5 - 8 - 6 - 5 - 7 - 6) (by omega)
  have w8 := t_ia1 (j := 2) hT h3 hE hs 5 49 (by decide) (by decide) (by decide) 8 (by decide) (f - 5 - 5 - 8 - 6 - 5 - 7 - 6 - 7) (by omega)
  have w9 := t_ia1 (j := 2) hT h3 hE hs 4 55 (by decide) (by decide) (by decide) 9 (by decide) (f - 5 - 5 - 8 - 6 - 5 - 7 - 6 - 7 - 6) (by omega)
  refine Eq.trans w0 ?_
  unfold t_i2
  by_cases c0 : t_mt 2 T s E 0 4 = true
  · rw [if_pos c0, if_pos c0]; rfl
  · rw [if_neg c0, if_neg c0]
    refine Eq.trans w1 ?_
    by_cases c1 : t_mt 2 T s E 5 4 = true
    · rw [if_pos c1, if_pos c1]; rfl
    · rw [if_neg c1, if_neg c1]
      refine Eq.trans w2 ?_
      by_cases c2 : t_mt 2 T s E 10 7 = true
      · rw [if_pos c2, if_pos c2]; rfl
      · rw [if_neg c2, if_neg c2]
        refine Eq.trans w3 ?_
        by_cases c3 : t_mt 2 T s E 18 5 = true
        · rw [if_pos c3, if_pos c3]; rfl
        · rw [if_neg c3, if_neg c3]
          refine Eq.trans w4 ?_
          by_cases c4 : t_mt 2 T s E 24 4 = true
          · rw [if_pos c4, if_pos c4]; rfl
          · rw [if_neg c4, if_neg c4]
            refine Eq.trans w5 ?_
            by_cases c5 : t_mt 2 T s E 29 6 = true
            · rw [if_pos c5, if_pos c5]; rfl
            · rw [if_neg c5, if_neg c5]
              refine Eq.trans w6 ?_
              by_cases c6 : t_mt 2 T s E 36 5 = true
              · rw [if_pos c6, if_pos c6]; rfl
              · rw [if_neg c6, if_neg c6]
                refine Eq.trans w7 ?_
                by_cases c7 : t_mt 2 T s E 42 6 = true
                · rw [if_pos c7, if_pos c7]; rfl
                · rw [if_neg c7, if_neg c7]
                  refine Eq.trans w8 ?_
                  by_cases c8 : t_mt 2 T s E 49 5 = true
                  · rw [if_pos c8, if_pos c8]; rfl
                  · rw [if_neg c8, if_neg c8]
                    refine Eq.trans w9 ?_
                    by_cases c9 : t_mt 2 T s E 55 4 = true
                    · rw [if_pos c9, if_pos c9]; rfl
                    · rw [if_neg c9, if_neg c9]
                      obtain ⟨f', hf'⟩ : ∃ f', f - 5 - 5 - 8 - 6 - 5 - 7 - 6 - 7 - 6 - (4 + 1) = f' + 1 := ⟨f - 61, by omega⟩
                      rw [hf', f_ia, if_pos (by decide)]
def t_i3 (T : Nat → Int) (s E : Nat) : Int := if t_mt 3 T s E 0 3 = true then 0 else if t_mt 3 T s E 4 4 = true then 1 else if t_mt 3 T s E 9 5 = true then 2 else if t_mt 3 T s E 15 4 = true then 3 else if t_mt 3 T s E 20 5 = true then 4 else -1
theorem t_iw3 {T : Nat → Int} {s E : Nat} {M : e_M} (hT : ∀ j, j < 600 → 0 ≤ T j ∧ T j ≤ 255) (h3 : ∀ p, p < 600 → M 3 p = q_sb (T p)) (hE : E ≤ 600) (hs : s ≤ E) : ∀ f, 80 < f → f_ia 3 f (s : Int) (E : Int) 0 (s : Int) 1 0 M = some (t_i3 T s E, M) := by
  intro f hf
  have w0 := t_ia1 (j := 3) hT h3 hE hs 3 0 (by decide) (by decide) (by decide) 0 (by decide) (f) (by omega)
  have w1 := t_ia1 (j := 3) hT h3 hE hs 4 4 (by decide) (by decide) (by decide) 1 (by decide) (f - 4) (by omega)
  have w2 := t_ia1 (j := 3) hT h3 hE hs 5 9 (by decide) (by decide) (by decide) 2 (by decide) (f - 4 - 5) (by omega)
  have w3 := t_ia1 (j := 3) hT h3 hE hs 4 15 (by decide) (by decide) (by decide) 3 (by decide) (f - 4 - 5 - 6) (by omega)
  have w4 := t_ia1 (j := 3) hT h3 hE hs 5 20 (by decide) (by decide) (by decide) 4 (by decide) (f - 4 - 5 - 6 - 5) (by omega)
  refine Eq.trans w0 ?_
  unfold t_i3
  by_cases c0 : t_mt 3 T s E 0 3 = true
  · rw [if_pos c0, if_pos c0]; rfl
  · rw [if_neg c0, if_neg c0]
    refine Eq.trans w1 ?_
    by_cases c1 : t_mt 3 T s E 4 4 = true
    · rw [if_pos c1, if_pos c1]; rfl
    · rw [if_neg c1, if_neg c1]
      refine Eq.trans w2 ?_
      by_cases c2 : t_mt 3 T s E 9 5 = true
      · rw [if_pos c2, if_pos c2]; rfl
      · rw [if_neg c2, if_neg c2]
        refine Eq.trans w3 ?_
        by_cases c3 : t_mt 3 T s E 15 4 = true
        · rw [if_pos c3, if_pos c3]; rfl
        · rw [if_neg c3, if_neg c3]
          refine Eq.trans w4 ?_
          by_cases c4 : t_mt 3 T s E 20 5 = true
          · rw [if_pos c4, if_pos c4]; rfl
          · rw [if_neg c4, if_neg c4]
            obtain ⟨f', hf'⟩ : ∃ f', f - 4 - 5 - 6 - 5 - (5 + 1) = f' + 1 := ⟨f - 27, by omega⟩
            rw [hf', f_ia, if_pos (by decide)]
theorem t_rw {T : Nat → Int} {n j : Nat} (hT : ∀ j, j < 600 → 0 ≤ T j ∧ T j ≤ 255) (hn : n ≤ 600) (ix : Nat → Nat → Int) (hix : ∀ (s E : Nat) (M : e_M), (∀ p, p < 600 → M 3 p = q_sb (T p)) → s ≤ E → E ≤ 600 → ∀ f, 80 < f → f_ia j f (s : Int) (E : Int) 0 (s : Int) 1 0 M = some (ix s E, M)) {fp : Int} {a : Nat} {M : e_M} (ha : a ≤ n) (h : t_C T n a 0 fp M) : ∃ M', (∀ f, 700 < f → f_X7_readWord j f M = some (ix (t_s T n a) (t_we T n (n - t_s T n a) (t_s T n a)), M')) ∧ t_C T n (if ix (t_s T n a) (t_we T n (n - t_s T n a) (t_s T n a)) = -1 then t_s T n a else t_we T n (n - t_s T n a) (t_s T n a)) (if ix (t_s T n a) (t_we T n (n - t_s T n a) (t_s T n a)) = -1 then 1 else 0) (if ix (t_s T n a) (t_we T n (n - t_s T n a) (t_s T n a)) = -1 then (t_s T n a : Int) else fp) M' ∧ M' 2 6 = (t_s T n a : Int) ∧ t_fC M M' := by
  obtain ⟨M1, k1, k2, k3⟩ := t_peek hT hn (n - a) a 0 fp M rfl ha h
  have hsn := (t_s_p (T := T) (n - a) a rfl).2.1 ha
  generalize t_s T n a = s at *
  have hE := t_we_r (T := T) (n := n) (n - s) s rfl hsn
  have k2' : t_C T n s 0 fp (e_up M1 2 6 (s : Int)) := ⟨by rw [u_c (by decide)]; exact k2.1, by rw [u_c (by decide)]; exact k2.2.1, by rw [u_c (by decide)]; exact k2.2.2.1, by rw [u_c (by decide)]; exact k2.2.2.2.1, fun j hj => by rw [u_r (by decide)]; exact k2.2.2.2.2 j hj⟩
  have k3' : t_fC M1 (e_up M1 2 6 (s : Int)) := fun c j x => by
    by_cases e : c = 2
    · subst e; exact u_c (by omega)
    · exact u_r e
  have h27 := t_r27 (q := j) hT hn k2'.1 k2'.2.2.2.2 (n - s) s rfl hsn
  generalize t_we T n (n - s) s = E at *
  have hia := hix s E (e_up M1 2 6 (s : Int)) k2'.2.2.2.2 hE.1 (by omega)
  have pre : ∀ f, 700 < f → ∃ g, 80 < g ∧ f_X7_readWord j f M = f_rw63 j g (E : Int) (e_up M1 2 6 (s : Int)) := fun f hf => by
    obtain ⟨g, g1, g2⟩ := h27 f (by omega)
    refine ⟨g, by omega, ?_⟩
    unfold f_X7_readWord
    rw [h.2.2.1, if_pos rfl, k1 f (by omega), f_bs, k2.2.1]
    exact g2
  by_cases c : ix s E = -1
  · obtain ⟨l1, l2, l3⟩ := t_C_fl (k := 1) (p := (s : Int)) k2'
    rw [if_pos c, if_pos c, if_pos c]
    refine ⟨_, fun f hf => ?_, l2, by rw [u_c (by decide), u_c (by decide), u_s], k3.tr (k3'.tr l3)⟩
    obtain ⟨g, g1, g2⟩ := pre f hf
    rw [g2]
    unfold f_rw63
    rw [k2'.2.1, hia g g1, f_bs, if_pos c, k2'.2.1, l1, f_bs]
  · obtain ⟨l1, l2⟩ := t_C_at (b := E) k2'
    rw [if_neg c, if_neg c, if_neg c]
    refine ⟨_, fun f hf => ?_, l1, by rw [u_c (by decide), u_s], k3.tr (k3'.tr l2)⟩
    obtain ⟨g, g1, g2⟩ := pre f hf
    rw [g2]
    unfold f_rw63
    rw [k2'.2.1, hia g g1, f_bs, if_neg c]
