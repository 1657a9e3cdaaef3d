/-! OPERATIONS, 25: book -/
theorem z_lay {M : e_M} {c : Nat} (hc : c ≤ 6) : ∃ N, (∀ f, 40 < f → f_X11_lays_m_line f (c : Int) M = some (0, N)) ∧ (∀ k, k < c → N (436 + k) 0 = M (443 + k) 0 ∧ N (436 + k) 1 = M (443 + k) 1) ∧ ∀ a j, ¬ (436 ≤ a ∧ a ≤ 441) → N a j = M a j := by
  obtain ⟨A, ⟨a1, a2⟩, hA⟩ := q_run 0 4 c (fun f (A : e_M) i => f_X11_lays_m_line_L2 f 0 (c : Int) i 0 A) (fun i A => (∀ k, k < i → A (436 + k) 0 = M (443 + k) 0 ∧ A (436 + k) 1 = M (443 + k) 1) ∧ ∀ a j, ¬ (436 ≤ a ∧ a ≤ 441) → A a j = M a j) (a := M) (fun i A hi hA => by
    obtain ⟨a1, a2⟩ := hA
    refine ⟨e_up (e_up A (436 + i) 0 (A (443 + i) 0)) (436 + i) 1 (A (443 + i) 1), ⟨fun k hk => ?_, fun a j ha => by rw [u_r (by omega), u_r (by omega), a2 a j ha]⟩, fun f hf => ?_⟩
    · by_cases e : k = i
      · subst e
        rw [u_c (by decide), u_s, u_s, a2 _ 0 (by omega), a2 _ 1 (by omega)]
        exact ⟨rfl, rfl⟩
      · rw [u_r (by omega), u_r (by omega), u_r (by omega), u_r (by omega)]
        exact a1 k (by omega)
    · rw [f_X11_lays_m_line_L2, if_pos rfl, if_neg (show ¬ (c : Int) ≤ (i : Int) by omega), f_X11_lays_m_line_L2, if_neg (show ¬ (1 : Nat) = 0 by decide), if_pos (show 0 ≤ (i : Int) ∧ (i : Int) < 6 by omega), if_neg (show ¬ (2 : Int) ≤ 0 by decide), if_pos (show 0 ≤ (i : Int) ∧ (i : Int) < 6 by omega), if_pos (show 0 ≤ (i : Int) ∧ (i : Int) < 6 by omega), if_pos (show (0 : Int) ≤ 0 ∧ (0 : Int) < 2 by decide), if_pos (show (0 : Int) ≤ 0 ∧ (0 : Int) < 2 by decide), Int.toNat_natCast, show e_w (0 + 1) = 1 by decide, f_X11_lays_m_line_L2, if_neg (show ¬ (1 : Nat) = 0 by decide), if_pos (show 0 ≤ (i : Int) ∧ (i : Int) < 6 by omega), if_neg (show ¬ (2 : Int) ≤ 1 by decide), if_pos (show 0 ≤ (i : Int) ∧ (i : Int) < 6 by omega), if_pos (show 0 ≤ (i : Int) ∧ (i : Int) < 6 by omega), if_pos (show (0 : Int) ≤ 1 ∧ (1 : Int) < 2 by decide), if_pos (show (0 : Int) ≤ 1 ∧ (1 : Int) < 2 by decide), Int.toNat_natCast, show e_w (1 + 1) = 2 by decide, f_X11_lays_m_line_L2, if_neg (show ¬ (1 : Nat) = 0 by decide), if_pos (show 0 ≤ (i : Int) ∧ (i : Int) < 6 by omega), if_pos (show (2 : Int) ≤ 2 by decide), e_ws_ (x := (i : Int) + 1) (by omega) (by omega)]
      have e1 : (e_up A (436 + i) 0 (A (443 + i) 0)) (443 + i) 1 = A (443 + i) 1 := u_r (by omega)
      show f_X11_lays_m_line_L2 f 0 (c : Int) ((i : Int) + 1) 0 (e_up (e_up A (436 + i) 0 (A (443 + i) 0)) (436 + i) 1 ((e_up A (436 + i) 0 (A (443 + i) 0)) (443 + i) 1)) = _
      rw [e1]) ⟨fun k hk => absurd hk (by omega), fun _ _ _ => rfl⟩
  refine ⟨A, fun f hf => ?_, a1, a2⟩
  obtain ⟨f', rfl⟩ : ∃ f', f = (f' + 1) + c * 4 := ⟨f - 1 - c * 4, by omega⟩
  refine Eq.trans (hA (f' + 1) (by omega)) ?_
  show f_X11_lays_m_line_L2 (f' + 1) 0 (c : Int) (c : Int) 0 A = _
  rw [f_X11_lays_m_line_L2, if_pos rfl, if_pos (Int.le_refl _)]
/-- a text is begun, on both sides -/
theorem t_beg {M : e_M} {e : Nat} (hK2 : q_K2 M) : f_X7_beginReading (e : Int) M = some (0, e_up (e_up (e_up (e_up (e_up M 2 2 (e : Int)) 2 1 0) 2 3 0) 2 4 0) 2 5 (-1)) ∧ t_C (fun j => M 65 j) e 0 0 (-1) (e_up (e_up (e_up (e_up (e_up M 2 2 (e : Int)) 2 1 0) 2 3 0) 2 4 0) 2 5 (-1)) ∧ ∀ j, j < 600 → 0 ≤ M 65 j ∧ M 65 j ≤ 255 :=
  ⟨rfl, ⟨rfl, rfl, rfl, rfl, fun j hj => (hK2 j hj).2.2⟩, fun j hj => ⟨(hK2 j hj).1, (hK2 j hj).2.1⟩⟩
theorem t_str {T : Nat → Int} {N : e_M} {e : Nat} (hT : ∀ j, j < 600 → 0 ≤ T j ∧ T j ≤ 255) (he : e ≤ 600) (h65 : ∀ j, j < 600 → N 65 j = T j) : ∃ N', (∀ f, 601 < f → f_X11_starts f (e : Int) N = some (0, N')) ∧ t_m T e (t_s T e 0) 0 (-1) N' ∧ N' 64 1 = 0 ∧ N' 64 7 = 0 ∧ N' 64 8 = 0 ∧ ∀ a j, ¬ (a = 64 ∧ (j = 1 ∨ j = 2 ∨ (4 ≤ j ∧ j ≤ 8))) → N' a j = N a j := by
  obtain ⟨N', k1, k2, k3⟩ := t_bl hT he (e - 0) 0 0 (-1) (e_up (e_up (e_up (e_up (e_up (e_up (e_up N 64 1 0) 64 2 (e : Int)) 64 4 0) 64 5 0) 64 6 (-1)) 64 7 0) 64 8 0) rfl (by omega) ⟨rfl, rfl, rfl, rfl, h65⟩
  refine ⟨N', fun f hf => ?_, k2, by rw [k3 64 1 (by omega)]; rfl, by rw [k3 64 7 (by omega)]; rfl, by rw [k3 64 8 (by omega)]; rfl, fun a j h => ?_⟩
  · unfold f_X11_starts
    rw [k1 f (by omega), f_bs]
  · rw [k3 a j (by omega)]
    by_cases ea : a = 64
    · subst ea
      rw [u_c (by omega), u_c (by omega), u_c (by omega), u_c (by omega), u_c (by omega), u_c (by omega), u_c (by omega)]
    · rw [u_r ea, u_r ea, u_r ea, u_r ea, u_r ea, u_r ea, u_r ea]
