/-! TEXTS, 4: words, the class's side -/
/-- the end of the small letters from a on -/
def t_we (T : Nat → Int) (n : Nat) : Nat → Nat → Nat
  | 0, a => a
  | j + 1, a => if a < n ∧ 97 ≤ T a ∧ T a ≤ 122 then t_we T n j (a + 1) else a
theorem t_we_1 {T : Nat → Int} {n j a : Nat} (h : a < n ∧ 97 ≤ T a ∧ T a ≤ 122) : t_we T n (j + 1) a = t_we T n j (a + 1) := if_pos h
theorem t_we_0 {T : Nat → Int} {n j a : Nat} (h : ¬ (a < n ∧ 97 ≤ T a ∧ T a ≤ 122)) : t_we T n j a = a := by
  cases j with
  | zero => rfl
  | succ j => exact if_neg h
theorem t_we_r {T : Nat → Int} {n : Nat} : ∀ (j a : Nat), n - a = j → a ≤ n → a ≤ t_we T n j a ∧ t_we T n j a ≤ n
  | 0, a, h, ha => ⟨Nat.le_refl _, ha⟩
  | j + 1, a, h, ha => by
    by_cases c : a < n ∧ 97 ≤ T a ∧ T a ≤ 122
    · rw [t_we_1 c]
      have := t_we_r (T := T) (n := n) j (a + 1) (by omega) (by omega)
      omega
    · rw [t_we_0 c]
      exact ⟨Nat.le_refl _, ha⟩
/-- one word of the string is held against the text -/
theorem t_ia {T : Nat → Int} {j s E : Nat} {M : e_M} (hT : ∀ j, j < 600 → 0 ≤ T j ∧ T j ≤ 255) (h3 : ∀ p, p < 600 → M 3 p = q_sb (T p)) (hE : E ≤ 600) : ∀ (len i pl : Nat) (sm : Int), (sm = 0 ∨ sm = 1) → s ≤ pl → pl ≤ E → i + len ≤ e_sln.getD j 0 → (∀ k, k < len → 97 ≤ e_sg j (i + k) ∧ e_sg j (i + k) ≤ 122) → e_sg j (i + len) = 32 → ∀ (f : Nat) (v4 : Int),
    ((sm = 1 ∧ E = pl + len ∧ ∀ k, k < len → T (pl + k) = e_sg j (i + k)) → f_ia j (f + len + 1) (s : Int) (E : Int) v4 (pl : Int) sm i M = some (v4, M)) ∧ (¬ (sm = 1 ∧ E = pl + len ∧ ∀ k, k < len → T (pl + k) = e_sg j (i + k)) → f_ia j (f + len + 1) (s : Int) (E : Int) v4 (pl : Int) sm i M = f_ia j f (s : Int) (E : Int) (e_w (v4 + 1)) (s : Int) 1 (i + len + 1) M) := by
  intro len
  induction len with
  | zero =>
    intro i pl sm hsm hs hpl hi hl h32 f v4
    rw [Nat.add_zero] at h32
    rw [show f + 0 + 1 = f + 1 by omega, f_ia, if_neg (by omega), if_pos h32]
    constructor
    · rintro ⟨h1, h2, _⟩
      rw [if_neg (by omega), if_pos (by omega)]
    · intro h
      by_cases c : sm = 0
      · rw [if_pos c]
      · rw [if_neg c, if_neg (fun he => h ⟨by omega, by omega, fun k hk => absurd hk (by omega)⟩)]
  | succ len ih =>
    intro i pl sm hsm hs hpl hi hl h32 f v4
    have hl0 := hl 0 (by omega)
    rw [Nat.add_zero] at hl0
    have e1 : i + (len + 1) = (i + 1) + len := by omega
    rw [e1] at h32 ⊢
    have hl' : ∀ k, k < len → 97 ≤ e_sg j (i + 1 + k) ∧ e_sg j (i + 1 + k) ≤ 122 := fun k hk => by
      have := hl (k + 1) (by omega)
      rw [show i + 1 + k = i + (k + 1) by omega]; exact this
    have hdrop : f_ia j (f + (len + 1) + 1) (s : Int) (E : Int) v4 (pl : Int) sm i M = (if (pl : Int) < (E : Int) then (if T pl = e_sg j i then f_ia j (f + len + 1) (s : Int) (E : Int) v4 ((pl + 1 : Nat) : Int) sm (i + 1) M else f_ia j (f + len + 1) (s : Int) (E : Int) v4 (pl : Int) 0 (i + 1) M) else f_ia j (f + len + 1) (s : Int) (E : Int) v4 (pl : Int) 0 (i + 1) M) := by
      rw [show f + (len + 1) + 1 = (f + len + 1) + 1 by omega, f_ia, if_neg (by omega), if_neg (by omega)]
      by_cases c : (pl : Int) < (E : Int)
      · have hTp := hT pl (by omega)
        rw [if_pos c, if_pos c, if_pos (by omega), Int.toNat_natCast, h3 pl (by omega), y_ei (by omega)]
        by_cases d : T pl = e_sg j i
        · rw [if_pos d, if_pos (by unfold q_sb; rw [if_pos (by omega)]; exact d)]
        · rw [if_neg d, if_neg (by unfold q_sb; split <;> omega)]
      · rw [if_neg c, if_neg c]
    rw [hdrop]
    have bad := (ih (i + 1) pl 0 (Or.inl rfl) hs hpl (by omega) hl' h32 f v4).2 (fun h => absurd h.1 (by decide))
    by_cases c : (pl : Int) < (E : Int)
    · rw [if_pos c]
      by_cases d : T pl = e_sg j i
      · rw [if_pos d]
        have good := ih (i + 1) (pl + 1) sm hsm (by omega) (by omega) (by omega) hl' h32 f v4
        constructor
        · rintro ⟨h1, h2, h4⟩
          exact good.1 ⟨h1, by omega, fun k hk => by rw [show pl + 1 + k = pl + (k + 1) by omega, show i + 1 + k = i + (k + 1) by omega]; exact h4 (k + 1) (by omega)⟩
        · intro h
          refine good.2 (fun g => h ⟨g.1, by omega, fun k hk => ?_⟩)
          cases k with
          | zero => exact d
          | succ k =>
            have := g.2.2 k (by omega)
            rw [show pl + (k + 1) = pl + 1 + k by omega, show i + (k + 1) = i + 1 + k by omega]; exact this
      · rw [if_neg d]
        exact ⟨fun h => absurd (h.2.2 0 (by omega)) d, fun _ => bad⟩
    · rw [if_neg c]
      exact ⟨fun h => absurd h.2.1 (by omega), fun _ => bad⟩
