/-! TEXTS, 5: words, the class's side -/
theorem t_r27 {T : Nat → Int} {n q : Nat} (hT : ∀ j, j < 600 → 0 ≤ T j ∧ T j ≤ 255) (hn : n ≤ 600) {M : e_M} (h2 : M 2 2 = (n : Int)) (h3 : ∀ p, p < 600 → M 3 p = q_sb (T p)) : ∀ (j a : Nat), n - a = j → a ≤ n → ∀ f, j < f → ∃ g, f ≤ g + j + 1 ∧ f_rw27 q f (a : Int) M = f_rw63 q g (t_we T n j a : Int) M := by
  intro j
  induction j with
  | zero =>
    intro a hj ha f hf
    obtain ⟨f', rfl⟩ : ∃ f', f = f' + 1 := ⟨f - 1, by omega⟩
    refine ⟨f', by omega, ?_⟩
    rw [f_rw27, h2, if_pos (by omega)]
    rfl
  | succ j ih =>
    intro a hj ha f hf
    obtain ⟨f', rfl⟩ : ∃ f', f = f' + 1 := ⟨f - 1, by omega⟩
    have hTa := hT a (by omega)
    by_cases c : a < n ∧ 97 ≤ T a ∧ T a ≤ 122
    · obtain ⟨g, g1, g2⟩ := ih (a + 1) (by omega) (by omega) f' (by omega)
      refine ⟨g, by omega, ?_⟩
      rw [t_we_1 c, f_rw27, h2, if_neg (show ¬ (n : Int) ≤ (a : Int) by omega), if_pos (show 0 ≤ (a : Int) ∧ (a : Int) < 600 by omega), Int.toNat_natCast, h3 a (by omega), show q_sb (T a) = T a by unfold q_sb; rw [if_pos (by omega)], if_neg (show ¬ T a < 97 by omega), if_neg (show ¬ 122 < T a by omega), y_ei (by omega)]
      exact g2
    · refine ⟨f', by omega, ?_⟩
      rw [t_we_0 c, f_rw27, h2, if_neg (show ¬ (n : Int) ≤ (a : Int) by omega), if_pos (show 0 ≤ (a : Int) ∧ (a : Int) < 600 by omega), Int.toNat_natCast, h3 a (by omega)]
      by_cases d : q_sb (T a) < 97
      · rw [if_pos d]
      · rw [if_neg d, if_pos (by unfold q_sb at d ⊢; split at d <;> (split <;> omega))]
/-- the word from s to E is the one that stands in the string j from i on -/
def t_mt (j : Nat) (T : Nat → Int) (s E i len : Nat) : Bool := decide (E = s + len ∧ ∀ k, k < len → T (s + k) = e_sg j (i + k))
theorem t_ia1 {T : Nat → Int} {j s E : Nat} {M : e_M} (hT : ∀ j, j < 600 → 0 ≤ T j ∧ T j ≤ 255) (h3 : ∀ p, p < 600 → M 3 p = q_sb (T p)) (hE : E ≤ 600) (hs : s ≤ E) (len i : Nat) (hi : i + len ≤ e_sln.getD j 0) (hl : ∀ k, k < len → 97 ≤ e_sg j (i + k) ∧ e_sg j (i + k) ≤ 122) (h32 : e_sg j (i + len) = 32) (v : Nat) (hv : v < 100) : ∀ f, len < f → f_ia j f (s : Int) (E : Int) (v : Int) (s : Int) 1 i M = if t_mt j T s E i len = true then some ((v : Int), M) else f_ia j (f - (len + 1)) (s : Int) (E : Int) ((v + 1 : Nat) : Int) (s : Int) 1 (i + len + 1) M := by
  intro f hf
  have h := t_ia (j := j) (s := s) hT h3 hE len i s 1 (Or.inr rfl) (Nat.le_refl _) hs hi hl h32 (f - (len + 1)) (v : Int)
  rw [show f - (len + 1) + len + 1 = f by omega, y_ei (by omega)] at h
  by_cases c : t_mt j T s E i len = true
  · rw [if_pos c]
    exact h.1 ⟨rfl, of_decide_eq_true c⟩
  · rw [if_neg c]
    exact h.2 (fun g => c (decide_eq_true g.2))
/-- which clause of a town, -1: none -/
def t_i1 (T : Nat → Int) (s E : Nat) : Int := if t_mt 1 T s E 0 6 = true then 0 else if t_mt 1 T s E 7 4 = true then 1 else if t_mt 1 T s E 12 3 = true then 2 else if t_mt 1 T s E 16 4 = true then 3 else -1
theorem t_iw1 {T : Nat → Int} {s E : Nat} {M : e_M} (hT : ∀ j, j < 600 → 0 ≤ T j ∧ T j ≤ 255) (h3 : ∀ p, p < 600 → M 3 p = q_sb (T p)) (hE : E ≤ 600) (hs : s ≤ E) : ∀ f, 30 < f → f_ia 1 f (s : Int) (E : Int) 0 (s : Int) 1 0 M = some (t_i1 T s E, M) := by
  intro f hf
  have w0 := t_ia1 (j := 1) hT h3 hE hs 6 0 (by decide) (by decide) (by decide) 0 (by decide) f (by omega)
  have w1 := t_ia1 (j := 1) hT h3 hE hs 4 7 (by decide) (by decide) (by decide) 1 (by decide) (f - 7) (by omega)
  have w2 := t_ia1 (j := 1) hT h3 hE hs 3 12 (by decide) (by decide) (by decide) 2 (by decide) (f - 7 - 5) (by omega)
  have w3 := t_ia1 (j := 1) hT h3 hE hs 4 16 (by decide) (by decide) (by decide) 3 (by decide) (f - 7 - 5 - 4) (by omega)
  refine Eq.trans w0 ?_
  unfold t_i1
  by_cases c0 : t_mt 1 T s E 0 6 = true
  · rw [if_pos c0, if_pos c0]; rfl
  · rw [if_neg c0, if_neg c0]
    refine Eq.trans w1 ?_
    by_cases c1 : t_mt 1 T s E 7 4 = true
    · rw [if_pos c1, if_pos c1]; rfl
    · rw [if_neg c1, if_neg c1]
      refine Eq.trans w2 ?_
      by_cases c2 : t_mt 1 T s E 12 3 = true
      · rw [if_pos c2, if_pos c2]; rfl
      · rw [if_neg c2, if_neg c2]
        refine Eq.trans w3 ?_
        by_cases c3 : t_mt 1 T s E 16 4 = true
        · rw [if_pos c3, if_pos c3]; rfl
        · rw [if_neg c3, if_neg c3]
          obtain ⟨f', hf'⟩ : ∃ f', f - 7 - 5 - 4 - (4 + 1) = f' + 1 := ⟨f - 22, by omega⟩
          rw [hf', f_ia, if_pos (by decide)]
