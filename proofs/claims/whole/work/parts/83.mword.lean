/-! TEXTS, 7: words, the model's side -/
/-- the code of k letters from s on -/
def t_cw (T : Nat → Int) (s : Nat) : Nat → Int
  | 0 => 0
  | k + 1 => 27 * t_cw T s k + (T (s + k) - 96)
def t_cb : Nat → Int
  | 0 => 0
  | k + 1 => 27 * t_cb k + 26
theorem t_cw_r {T : Nat → Int} {s : Nat} : ∀ k, (∀ i, i < k → 97 ≤ T (s + i) ∧ T (s + i) ≤ 122) → 0 ≤ t_cw T s k ∧ t_cw T s k ≤ t_cb k
  | 0, _ => ⟨Int.le_refl _, Int.le_refl _⟩
  | k + 1, h => by
    have h1 := t_cw_r k (fun i hi => h i (by omega))
    have h2 := h k (by omega)
    show 0 ≤ 27 * t_cw T s k + (T (s + k) - 96) ∧ 27 * t_cw T s k + (T (s + k) - 96) ≤ 27 * t_cb k + 26
    omega
theorem t_cb5 {k : Nat} (h : k ≤ 5) : t_cb k ≤ 14348906 := by
  have hc : k = 0 ∨ k = 1 ∨ k = 2 ∨ k = 3 ∨ k = 4 ∨ k = 5 := by omega
  rcases hc with rfl | rfl | rfl | rfl | rfl | rfl <;> decide
theorem t_sml {x : Int} {M : e_M} : f_X11_isSmall x M = some (if 97 ≤ x ∧ x ≤ 122 then 1 else 0, M) := by
  unfold f_X11_isSmall
  by_cases c : x < 97
  · rw [if_pos c, if_neg (by omega)]
  · rw [if_neg c]
    by_cases d : 122 < x
    · rw [if_pos d, if_neg (by omega)]
    · rw [if_neg d, if_pos (by omega)]
theorem t_by2 {T : Nat → Int} {n a b : Nat} {fl fp : Int} {M : e_M} (hn : n ≤ 600) (hb : b ≤ n) (h : t_m T n a fl fp M) : f_X11_byteAt (b : Int) M = some (t_b T n b, M) := by
  unfold f_X11_byteAt t_b
  rw [h.1]
  by_cases c : b < n
  · rw [if_pos (show (b : Int) < (n : Int) by omega), if_pos (show 0 ≤ (b : Int) ∧ (b : Int) < 600 by omega), Int.toNat_natCast, h.2.2.2.2 b (by omega), if_pos c]
  · rw [if_neg (show ¬ (b : Int) < (n : Int) by omega), if_neg c]
theorem t_wh {T : Nat → Int} {n s : Nat} {fl fp : Int} {M : e_M} (hT : ∀ j, j < 600 → 0 ≤ T j ∧ T j ≤ 255) (hn : n ≤ 600) (h : t_m T n s fl fp M) : ∀ (j k : Nat), n - (s + k) = j → s + k ≤ n → (∀ i, i < k → 97 ≤ T (s + i) ∧ T (s + i) ≤ 122) → ∀ f, j < f → f_X11_wordHere_8 f (t_cw T s (min k 6)) (k : Int) M = some (if t_we T n j (s + k) - s ≤ 6 then t_cw T s (t_we T n j (s + k) - s) else -1, M) := by
  intro j
  have stop : ∀ (j k : Nat), s + k ≤ n → ¬ (s + k < n ∧ 97 ≤ T (s + k) ∧ T (s + k) ≤ 122) → ∀ f, f_X11_wordHere_8 (f + 1) (t_cw T s (min k 6)) (k : Int) M = some (if t_we T n j (s + k) - s ≤ 6 then t_cw T s (t_we T n j (s + k) - s) else -1, M) := by
    intro j k hk c f
    have hnb : ¬ (97 ≤ t_b T n (s + k) ∧ t_b T n (s + k) ≤ 122) := by
      unfold t_b
      split <;> omega
    rw [f_X11_wordHere_8, h.2.1, show e_w ((s : Int) + (k : Int)) = ((s + k : Nat) : Int) from z_w (by omega), t_by2 hn hk h, f_bs, t_sml, f_bs, if_neg hnb, if_pos rfl, t_we_0 c, show s + k - s = k by omega]
    by_cases d : k ≤ 6
    · rw [if_pos (show (k : Int) ≤ 6 by omega), if_pos d, show min k 6 = k by omega]
    · rw [if_neg (show ¬ (k : Int) ≤ 6 by omega), if_neg d]
  induction j with
  | zero =>
    intro k hj hk hl f hf
    obtain ⟨f', rfl⟩ : ∃ f', f = f' + 1 := ⟨f - 1, by omega⟩
    exact stop 0 k hk (by omega) f'
  | succ j ih =>
    intro k hj hk hl f hf
    obtain ⟨f', rfl⟩ : ∃ f', f = f' + 1 := ⟨f - 1, by omega⟩
    by_cases c : s + k < n ∧ 97 ≤ T (s + k) ∧ T (s + k) ≤ 122
    · have hb : t_b T n (s + k) = T (s + k) := by unfold t_b; rw [if_pos c.1]
      have hi := ih (k + 1) (by omega) (by omega) (fun i hi => by
        by_cases e : i = k
        · rw [e]; exact c.2
        · exact hl i (by omega)) f' (by omega)
      rw [t_we_1 c, f_X11_wordHere_8, h.2.1, show e_w ((s : Int) + (k : Int)) = ((s + k : Nat) : Int) from z_w (by omega), t_by2 hn hk h, f_bs, t_sml, f_bs, hb, if_pos c.2, if_neg (show ¬ (1 : Int) = 0 by decide)]
      by_cases d : 6 ≤ k
      · rw [if_pos (show (6 : Int) ≤ (k : Int) by omega), y_ei (by omega), show min k 6 = min (k + 1) 6 by omega]
        exact hi
      · have hr := t_cw_r (T := T) (s := s) k hl
        have h5 := t_cb5 (k := k) (by omega)
        rw [if_neg (show ¬ (6 : Int) ≤ (k : Int) by omega), h.2.1, show e_w ((s : Int) + (k : Int)) = ((s + k : Nat) : Int) from z_w (by omega), t_by2 hn hk h, f_bs, hb, y_ei (by omega), show min k 6 = k by omega, e_ws_ (x := 27 * t_cw T s k) (by omega) (by omega), e_ws_ (x := 27 * t_cw T s k + T (s + k)) (by omega) (by omega), e_ws_ (x := 27 * t_cw T s k + T (s + k) - 97) (by omega) (by omega), e_ws_ (x := 27 * t_cw T s k + T (s + k) - 97 + 1) (by omega) (by omega)]
        rw [show min (k + 1) 6 = k + 1 by omega] at hi
        rw [show 27 * t_cw T s k + T (s + k) - 97 + 1 = t_cw T s (k + 1) by show _ = 27 * t_cw T s k + (T (s + k) - 96); omega]
        exact hi
    · exact stop (j + 1) k hk c f'
