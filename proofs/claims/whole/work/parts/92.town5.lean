/-! A NEW TOWN: loops of both sides -/
theorem z_tn {M : e_M} : ∃ N, (∀ f, 20 < f → f_X11_tellsNothing f M = some (0, N)) ∧ (∀ j, j < 3 → N 67 j = 0) ∧ (∀ j, j < 6 → N 71 j = 0) ∧ ∀ r j, r ≠ 67 → r ≠ 71 → N r j = M r j := by
  obtain ⟨A, ⟨a1, a2⟩, hA⟩ := q_run 0 1 3 (fun f (A : e_M) i => f_X11_tellsNothing_2 f i A) (fun i A => (∀ k, k < i → A 67 k = 0) ∧ ∀ r j, r ≠ 67 → A r j = M r j) (a := M) (fun i A hi hA => by
    obtain ⟨a1, a2⟩ := hA
    refine ⟨e_up A 67 i 0, ⟨fun k hk => ?_, fun r j h => by rw [u_r h, a2 r j h]⟩, fun f hf => ?_⟩
    · rw [u_i]
      by_cases e : k = i
      · rw [if_pos e]
      · rw [if_neg e]; exact a1 k (by omega)
    · rw [f_X11_tellsNothing_2, if_neg (show ¬ (3 : Int) ≤ (i : Int) by omega), if_pos (show 0 ≤ (i : Int) ∧ (i : Int) < 3 by omega), Int.toNat_natCast, e_ws_ (x := (i : Int) + 1) (by omega) (by omega)]) ⟨fun k hk => absurd hk (by omega), fun _ _ _ => rfl⟩
  obtain ⟨B, ⟨b1, b2⟩, hB⟩ := q_run 0 1 6 (fun f (B : e_M) i => f_X11_tellsNothing_22 f i B) (fun i B => (∀ k, k < i → B 71 k = 0) ∧ ∀ r j, r ≠ 71 → B r j = A r j) (a := A) (fun i B hi hB => by
    obtain ⟨a1, a2⟩ := hB
    refine ⟨e_up B 71 i 0, ⟨fun k hk => ?_, fun r j h => by rw [u_r h, a2 r j h]⟩, fun f hf => ?_⟩
    · rw [u_i]
      by_cases e : k = i
      · rw [if_pos e]
      · rw [if_neg e]; exact a1 k (by omega)
    · rw [f_X11_tellsNothing_22, if_neg (show ¬ (6 : Int) ≤ (i : Int) by omega), if_pos (show 0 ≤ (i : Int) ∧ (i : Int) < 6 by omega), Int.toNat_natCast, e_ws_ (x := (i : Int) + 1) (by omega) (by omega)]) ⟨fun k hk => absurd hk (by omega), fun _ _ _ => rfl⟩
  refine ⟨B, fun f hf => ?_, fun j hj => by rw [b2 67 j (by decide)]; exact a1 j hj, b1, fun r j h1 h2 => by rw [b2 r j h2, a2 r j h1]⟩
  obtain ⟨f', rfl⟩ : ∃ f', f = ((f' + 1) + 6 * 1 + 1) + 3 * 1 := ⟨f - 11, by omega⟩
  unfold f_X11_tellsNothing
  refine Eq.trans (hA _ (by omega)) ?_
  show f_X11_tellsNothing_2 ((f' + 1) + 6 * 1 + 1) 3 A = _
  rw [f_X11_tellsNothing_2, if_pos (by decide)]
  refine Eq.trans (hB _ (by omega)) ?_
  show f_X11_tellsNothing_22 (f' + 1) 6 B = _
  rw [f_X11_tellsNothing_22, if_pos (by decide)]
theorem z_lyp {M : e_M} {c : Nat} (hc : c ≤ 6) : ∃ N, (∀ f, 40 < f → f_X11_lays_m_person f (c : Int) M = some (0, N)) ∧ (∀ k, k < c → N (81 + k) 0 = M (74 + k) 0 ∧ N (81 + k) 1 = M (74 + k) 1) ∧ ∀ a j, ¬ (81 ≤ a ∧ a ≤ 86) → N a j = M a j := by
  obtain ⟨A, ⟨a1, a2⟩, hA⟩ := q_run 0 4 c (fun f (A : e_M) i => f_X11_lays_m_person_L2 f 0 (c : Int) i 0 A) (fun i A => (∀ k, k < i → A (81 + k) 0 = M (74 + k) 0 ∧ A (81 + k) 1 = M (74 + k) 1) ∧ ∀ a j, ¬ (81 ≤ a ∧ a ≤ 86) → A a j = M a j) (a := M) (fun i A hi hA => by
    obtain ⟨a1, a2⟩ := hA
    refine ⟨e_up (e_up A (81 + i) 0 (A (74 + i) 0)) (81 + i) 1 (A (74 + i) 1), ⟨fun k hk => ?_, fun a j ha => by rw [u_r (by omega), u_r (by omega), a2 a j ha]⟩, fun f hf => ?_⟩
    · by_cases e : k = i
      · subst e
        rw [u_c (by decide), u_s, u_s, a2 _ 0 (by omega), a2 _ 1 (by omega)]
        exact ⟨rfl, rfl⟩
      · rw [u_r (by omega), u_r (by omega), u_r (by omega), u_r (by omega)]
        exact a1 k (by omega)
    · rw [f_X11_lays_m_person_L2, if_pos rfl, if_neg (show ¬ (c : Int) ≤ (i : Int) by omega), f_X11_lays_m_person_L2, if_neg (show ¬ (1 : Nat) = 0 by decide), if_pos (show 0 ≤ (i : Int) ∧ (i : Int) < 6 by omega), if_neg (show ¬ (2 : Int) ≤ 0 by decide), if_pos (show 0 ≤ (i : Int) ∧ (i : Int) < 6 by omega), if_pos (show 0 ≤ (i : Int) ∧ (i : Int) < 6 by omega), if_pos (show (0 : Int) ≤ 0 ∧ (0 : Int) < 2 by decide), if_pos (show (0 : Int) ≤ 0 ∧ (0 : Int) < 2 by decide), Int.toNat_natCast, show e_w (0 + 1) = 1 by decide, f_X11_lays_m_person_L2, if_neg (show ¬ (1 : Nat) = 0 by decide), if_pos (show 0 ≤ (i : Int) ∧ (i : Int) < 6 by omega), if_neg (show ¬ (2 : Int) ≤ 1 by decide), if_pos (show 0 ≤ (i : Int) ∧ (i : Int) < 6 by omega), if_pos (show 0 ≤ (i : Int) ∧ (i : Int) < 6 by omega), if_pos (show (0 : Int) ≤ 1 ∧ (1 : Int) < 2 by decide), if_pos (show (0 : Int) ≤ 1 ∧ (1 : Int) < 2 by decide), Int.toNat_natCast, show e_w (1 + 1) = 2 by decide, f_X11_lays_m_person_L2, if_neg (show ¬ (1 : Nat) = 0 by decide), if_pos (show 0 ≤ (i : Int) ∧ (i : Int) < 6 by omega), if_pos (show (2 : Int) ≤ 2 by decide), e_ws_ (x := (i : Int) + 1) (by omega) (by omega)]
      have e1 : (e_up A (81 + i) 0 (A (74 + i) 0)) (74 + i) 1 = A (74 + i) 1 := u_r (by omega)
      show f_X11_lays_m_person_L2 f 0 (c : Int) ((i : Int) + 1) 0 (e_up (e_up A (81 + i) 0 (A (74 + i) 0)) (81 + i) 1 ((e_up A (81 + i) 0 (A (74 + i) 0)) (74 + i) 1)) = _
      rw [e1]) ⟨fun k hk => absurd hk (by omega), fun _ _ _ => rfl⟩
  refine ⟨A, fun f hf => ?_, a1, a2⟩
  obtain ⟨f', rfl⟩ : ∃ f', f = (f' + 1) + c * 4 := ⟨f - 1 - c * 4, by omega⟩
  refine Eq.trans (hA (f' + 1) (by omega)) ?_
  show f_X11_lays_m_person_L2 (f' + 1) 0 (c : Int) (c : Int) 0 A = _
  rw [f_X11_lays_m_person_L2, if_pos rfl, if_pos (Int.le_refl _)]
theorem z_lyt {M : e_M} {c : Nat} (hc : c ≤ 12) : ∃ N, (∀ f, 80 < f → f_X11_lays_m_task f (c : Int) M = some (0, N)) ∧ (∀ k, k < c → N (101 + k) 0 = M (88 + k) 0 ∧ N (101 + k) 1 = M (88 + k) 1 ∧ N (101 + k) 2 = M (88 + k) 2) ∧ ∀ a j, ¬ (101 ≤ a ∧ a ≤ 112) → N a j = M a j := by
  obtain ⟨A, ⟨a1, a2⟩, hA⟩ := q_run 0 5 c (fun f (A : e_M) i => f_X11_lays_m_task_L2 f 0 (c : Int) i 0 A) (fun i A => (∀ k, k < i → A (101 + k) 0 = M (88 + k) 0 ∧ A (101 + k) 1 = M (88 + k) 1 ∧ A (101 + k) 2 = M (88 + k) 2) ∧ ∀ a j, ¬ (101 ≤ a ∧ a ≤ 112) → A a j = M a j) (a := M) (fun i A hi hA => by
    obtain ⟨a1, a2⟩ := hA
    refine ⟨e_up (e_up (e_up A (101 + i) 0 (A (88 + i) 0)) (101 + i) 1 (A (88 + i) 1)) (101 + i) 2 (A (88 + i) 2), ⟨fun k hk => ?_, fun a j ha => by rw [u_r (by omega), u_r (by omega), u_r (by omega), a2 a j ha]⟩, fun f hf => ?_⟩
    · by_cases e : k = i
      · subst e
        rw [u_c (by decide), u_c (by decide), u_s, u_c (by decide), u_s, u_s, a2 _ 0 (by omega), a2 _ 1 (by omega), a2 _ 2 (by omega)]
        exact ⟨rfl, rfl, rfl⟩
      · rw [u_r (by omega), u_r (by omega), u_r (by omega), u_r (by omega), u_r (by omega), u_r (by omega), u_r (by omega), u_r (by omega), u_r (by omega)]
        exact a1 k (by omega)
    · have hi2 : 0 ≤ (i : Int) ∧ (i : Int) < 12 := by omega
      rw [f_X11_lays_m_task_L2, if_pos rfl, if_neg (show ¬ (c : Int) ≤ (i : Int) by omega), f_X11_lays_m_task_L2, if_neg (show ¬ (1 : Nat) = 0 by decide), if_pos hi2, if_neg (show ¬ (3 : Int) ≤ 0 by decide), if_pos hi2, if_pos hi2, if_pos (show (0 : Int) ≤ 0 ∧ (0 : Int) < 3 by decide), if_pos (show (0 : Int) ≤ 0 ∧ (0 : Int) < 3 by decide), Int.toNat_natCast, show e_w (0 + 1) = 1 by decide, f_X11_lays_m_task_L2, if_neg (show ¬ (1 : Nat) = 0 by decide), if_pos hi2, if_neg (show ¬ (3 : Int) ≤ 1 by decide), if_pos hi2, if_pos hi2, if_pos (show (0 : Int) ≤ 1 ∧ (1 : Int) < 3 by decide), if_pos (show (0 : Int) ≤ 1 ∧ (1 : Int) < 3 by decide), Int.toNat_natCast, show e_w (1 + 1) = 2 by decide, f_X11_lays_m_task_L2, if_neg (show ¬ (1 : Nat) = 0 by decide), if_pos hi2, if_neg (show ¬ (3 : Int) ≤ 2 by decide), if_pos hi2, if_pos hi2, if_pos (show (0 : Int) ≤ 2 ∧ (2 : Int) < 3 by decide), if_pos (show (0 : Int) ≤ 2 ∧ (2 : Int) < 3 by decide), Int.toNat_natCast, show e_w (2 + 1) = 3 by decide, f_X11_lays_m_task_L2, if_neg (show ¬ (1 : Nat) = 0 by decide), if_pos hi2, if_pos (show (3 : Int) ≤ 3 by decide), e_ws_ (x := (i : Int) + 1) (by omega) (by omega)]
      have e1 : (e_up A (101 + i) 0 (A (88 + i) 0)) (88 + i) 1 = A (88 + i) 1 := u_r (by omega)
      have e2 : (e_up (e_up A (101 + i) 0 (A (88 + i) 0)) (101 + i) 1 (A (88 + i) 1)) (88 + i) 2 = A (88 + i) 2 := by rw [u_r (by omega), u_r (by omega)]
      show f_X11_lays_m_task_L2 f 0 (c : Int) ((i : Int) + 1) 0 (e_up (e_up (e_up A (101 + i) 0 (A (88 + i) 0)) (101 + i) 1 ((e_up A (101 + i) 0 (A (88 + i) 0)) (88 + i) 1)) (101 + i) 2 ((e_up (e_up A (101 + i) 0 (A (88 + i) 0)) (101 + i) 1 ((e_up A (101 + i) 0 (A (88 + i) 0)) (88 + i) 1)) (88 + i) 2)) = _
      rw [e1, e2]) ⟨fun k hk => absurd hk (by omega), fun _ _ _ => rfl⟩
  refine ⟨A, fun f hf => ?_, a1, a2⟩
  obtain ⟨f', rfl⟩ : ∃ f', f = (f' + 1) + c * 5 := ⟨f - 1 - c * 5, by omega⟩
  refine Eq.trans (hA (f' + 1) (by omega)) ?_
  show f_X11_lays_m_task_L2 (f' + 1) 0 (c : Int) (c : Int) 0 A = _
  rw [f_X11_lays_m_task_L2, if_pos rfl, if_pos (Int.le_refl _)]
theorem z_beg {M : e_M} : ∃ N, (∀ f, 10 < f → f_X3_begin_now f M = some (0, N)) ∧ N 36 2 = 0 ∧ N 36 3 = 0 ∧ N 36 4 = 0 ∧ (∀ p, p < 6 → N 37 p = M 5 p ∧ N 38 p = 0 ∧ N 39 p = 0 ∧ N 40 p = -1 ∧ N 41 p = 0) ∧ (∀ k, k < 12 → N 42 k = M 10 k) ∧ ∀ r j, ¬ (36 ≤ r ∧ r ≤ 42) → N r j = M r j := by
  obtain ⟨A, ⟨a1, a2⟩, hA⟩ := q_run 0 1 6 (fun f (A : e_M) i => f_X3_begin_now_17 f i A) (fun i A => (∀ p, p < i → A 37 p = M 5 p ∧ A 38 p = 0 ∧ A 39 p = 0 ∧ A 40 p = -1 ∧ A 41 p = 0) ∧ ∀ r j, ¬ (37 ≤ r ∧ r ≤ 41) → A r j = (e_up (e_up (e_up M 36 2 0) 36 3 0) 36 4 0) r j) (a := e_up (e_up (e_up M 36 2 0) 36 3 0) 36 4 0) (fun i A hi hA => by
    obtain ⟨a1, a2⟩ := hA
    refine ⟨e_up (e_up (e_up (e_up (e_up A 37 i (A 5 i)) 38 i 0) 39 i 0) 40 i (-1)) 41 i 0, ⟨fun p hp => ?_, fun r j h => by rw [u_r (by omega), u_r (by omega), u_r (by omega), u_r (by omega), u_r (by omega), a2 r j h]⟩, fun f hf => ?_⟩
    · have g1 : (e_up (e_up (e_up (e_up (e_up A 37 i (A 5 i)) 38 i 0) 39 i 0) 40 i (-1)) 41 i 0) 37 p = if p = i then A 5 i else A 37 p := by rw [u_r (by decide), u_r (by decide), u_r (by decide), u_r (by decide), u_i]
      have g2 : (e_up (e_up (e_up (e_up (e_up A 37 i (A 5 i)) 38 i 0) 39 i 0) 40 i (-1)) 41 i 0) 38 p = if p = i then 0 else A 38 p := by rw [u_r (by decide), u_r (by decide), u_r (by decide), u_i, u_r (by decide)]
      have g3 : (e_up (e_up (e_up (e_up (e_up A 37 i (A 5 i)) 38 i 0) 39 i 0) 40 i (-1)) 41 i 0) 39 p = if p = i then 0 else A 39 p := by rw [u_r (by decide), u_r (by decide), u_i, u_r (by decide), u_r (by decide)]
      have g4 : (e_up (e_up (e_up (e_up (e_up A 37 i (A 5 i)) 38 i 0) 39 i 0) 40 i (-1)) 41 i 0) 40 p = if p = i then -1 else A 40 p := by rw [u_r (by decide), u_i, u_r (by decide), u_r (by decide), u_r (by decide)]
      have g5 : (e_up (e_up (e_up (e_up (e_up A 37 i (A 5 i)) 38 i 0) 39 i 0) 40 i (-1)) 41 i 0) 41 p = if p = i then 0 else A 41 p := by rw [u_i, u_r (by decide), u_r (by decide), u_r (by decide), u_r (by decide)]
      rw [g1, g2, g3, g4, g5]
      by_cases e : p = i
      · rw [if_pos e, if_pos e, if_pos e, if_pos e, if_pos e, a2 5 i (by omega), u_r (by decide), u_r (by decide), u_r (by decide), e]
        exact ⟨rfl, rfl, rfl, rfl, rfl⟩
      · rw [if_neg e, if_neg e, if_neg e, if_neg e, if_neg e]
        exact a1 p (by omega)
    · have hi2 : 0 ≤ (i : Int) ∧ (i : Int) < 6 := by omega
      rw [f_X3_begin_now_17, if_neg (show ¬ (6 : Int) ≤ (i : Int) by omega), if_pos hi2, if_pos hi2, if_pos hi2, if_pos hi2, if_pos hi2, if_pos hi2, Int.toNat_natCast, e_ws_ (x := (i : Int) + 1) (by omega) (by omega)]) ⟨fun k hk => absurd hk (by omega), fun _ _ _ => rfl⟩
  refine ⟨e_cp A 10 0 42 0 12, fun f hf => ?_, ?_, ?_, ?_, fun p hp => ?_, fun k hk => ?_, fun r j h => ?_⟩
  · obtain ⟨f', rfl⟩ : ∃ f', f = (f' + 1) + 6 * 1 := ⟨f - 7, by omega⟩
    unfold f_X3_begin_now
    refine Eq.trans (hA _ (by omega)) ?_
    show f_X3_begin_now_17 (f' + 1) 6 A = _
    rw [f_X3_begin_now_17, if_pos (by decide)]
  · rw [cp_r (by decide), a2 36 2 (by omega), u_c (by decide), u_c (by decide), u_s]
  · rw [cp_r (by decide), a2 36 3 (by omega), u_c (by decide), u_s]
  · rw [cp_r (by decide), a2 36 4 (by omega), u_s]
  · rw [cp_r (by decide), cp_r (by decide), cp_r (by decide), cp_r (by decide), cp_r (by decide)]; exact a1 p hp
  · rw [cp_i (by omega), a2 10 _ (by omega), u_r (by decide), u_r (by decide), u_r (by decide), show 0 + (k - 0) = k by omega]
  · rw [cp_r (by omega), a2 r j (by omega), u_r (by omega), u_r (by omega), u_r (by omega)]
