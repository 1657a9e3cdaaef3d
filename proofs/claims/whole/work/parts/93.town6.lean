/-! A NEW TOWN, 2: the model begins anew -/
def x_L (n t : Nat) (N : e_M) (j : Nat) : Int := if j < 6 then (if j < n then N (74 + j) 0 else 0) else if 18 ≤ j ∧ j < 24 then -1 else if 30 ≤ j ∧ j < 30 + t then N (88 + (j - 30)) 1 else 0
theorem z_ba5 {M : e_M} {n m t : Nat} (hn : n ≤ 6) (ht : t ≤ 12) (h0 : M 68 0 = (n : Int)) (h2 : M 68 2 = (t : Int)) : ∃ N, (∀ f, 100 < f → f_X11_beginsAnew_61 f 0 M = some (0, e_up (e_up (e_up (e_up (e_up N 64 21 0) 64 35 0) 64 36 0) 64 37 0) 64 38 0)) ∧ (∀ d, d < 6 → N 70 d = M 69 d) ∧ (∀ p, p < 6 → N 72 p = if p < n then M 71 p else 0) ∧ (∀ p, p < 6 → N 532 p = if p < n then M (81 + p) 0 else 0) ∧ (∀ j, 6 ≤ j → j < 56 → N 532 j = if 18 ≤ j ∧ j < 24 then -1 else if 30 ≤ j ∧ j < 30 + t then M (101 + (j - 30)) 1 else 0) ∧ ∀ r j, r ≠ 70 → r ≠ 72 → r ≠ 532 → N r j = M r j := by
  obtain ⟨D, ⟨d1, d2⟩, hD⟩ := q_run 0 1 6 (fun f (A : e_M) i => f_X11_beginsAnew_61 f i A) (fun i A => (∀ k, k < i → A 70 k = M 69 k) ∧ ∀ r j, r ≠ 70 → A r j = M r j) (a := M) (fun i A hi hA => by
    obtain ⟨a1, a2⟩ := hA
    refine ⟨e_up A 70 i (A 69 i), ⟨fun k hk => ?_, fun r j h => by rw [u_r h, a2 r j h]⟩, fun f hf => ?_⟩
    · rw [u_i]
      by_cases e : k = i
      · rw [if_pos e, a2 69 i (by decide), e]
      · rw [if_neg e]; exact a1 k (by omega)
    · rw [f_X11_beginsAnew_61, if_neg (show ¬ (6 : Int) ≤ (i : Int) by omega), if_pos (show 0 ≤ (i : Int) ∧ (i : Int) < 6 by omega), if_pos (show 0 ≤ (i : Int) ∧ (i : Int) < 6 by omega), Int.toNat_natCast, e_ws_ (x := (i : Int) + 1) (by omega) (by omega)]) ⟨fun k hk => absurd hk (by omega), fun _ _ _ => rfl⟩
  obtain ⟨E, ⟨e1, e2⟩, hE⟩ := q_run 0 1 56 (fun f (A : e_M) i => f_X11_beginsAnew_87 f i A) (fun i A => (∀ k, k < i → A 532 k = 0) ∧ ∀ r j, r ≠ 532 → A r j = D r j) (a := D) (fun i A hi hA => by
    obtain ⟨a1, a2⟩ := hA
    refine ⟨e_up A 532 i 0, ⟨fun k hk => ?_, fun r j h => by rw [u_r h, a2 r j h]⟩, fun f hf => ?_⟩
    · rw [u_i]
      by_cases e : k = i
      · rw [if_pos e]
      · rw [if_neg e]; exact a1 k (by omega)
    · rw [f_X11_beginsAnew_87, if_neg (show ¬ (56 : Int) ≤ (i : Int) by omega), if_pos (show 0 ≤ (i : Int) ∧ (i : Int) < 56 by omega), Int.toNat_natCast, e_ws_ (x := (i : Int) + 1) (by omega) (by omega)]) ⟨fun k hk => absurd hk (by omega), fun _ _ _ => rfl⟩
  obtain ⟨F, ⟨f1, f2, f3⟩, hF⟩ := q_run 0 1 6 (fun f (A : e_M) i => f_X11_beginsAnew_108 f i A) (fun i A => (∀ k, k < i → A 72 k = if k < n then E 71 k else 0) ∧ (∀ j, j < 56 → A 532 j = if j < i then (if j < n then E (81 + j) 0 else 0) else if 18 ≤ j ∧ j < 18 + i then -1 else 0) ∧ ∀ r j, r ≠ 72 → r ≠ 532 → A r j = E r j) (a := E) (fun i A hi hA => by
    obtain ⟨a1, a2, a3⟩ := hA
    refine ⟨e_up (e_up (e_up A 72 i (if i < n then A 71 i else 0)) 532 i (if i < n then A (81 + i) 0 else 0)) 532 (18 + i) (-1), ⟨fun k hk => ?_, fun j hj => ?_, fun r j h1 h2 => by rw [u_r h2, u_r h2, u_r h1, a3 r j h1 h2]⟩, fun f hf => ?_⟩
    · rw [u_r (by decide), u_r (by decide), u_i]
      by_cases e : k = i
      · rw [if_pos e, a3 71 i (by decide) (by decide), e]
      · rw [if_neg e]; exact a1 k (by omega)
    · rw [u_i, u_i, u_r (by decide), a2 j hj, a3 (81 + i) 0 (by omega) (by omega)]
      by_cases z1 : j = 18 + i
      · rw [if_pos z1, if_neg (show ¬ j < i + 1 by omega), if_pos (show 18 ≤ j ∧ j < 18 + (i + 1) by omega)]
      · rw [if_neg z1]
        by_cases z2 : j = i
        · rw [if_pos z2, if_pos (show j < i + 1 by omega), z2]
        · rw [if_neg z2]
          by_cases z3 : j < i
          · rw [if_pos z3, if_pos (show j < i + 1 by omega)]
          · rw [if_neg z3, if_neg (show ¬ j < i + 1 by omega)]
            by_cases z4 : 18 ≤ j ∧ j < 18 + i
            · rw [if_pos z4, if_pos (show 18 ≤ j ∧ j < 18 + (i + 1) by omega)]
            · rw [if_neg z4, if_neg (show ¬ (18 ≤ j ∧ j < 18 + (i + 1)) by omega)]
    · have hi2 : 0 ≤ (i : Int) ∧ (i : Int) < 6 := by omega
      have g0 : A 68 0 = (n : Int) := by rw [a3 68 0 (by decide) (by decide), e2 68 0 (by decide), d2 68 0 (by decide)]; exact h0
      have w1 : e_w (0 + (i : Int)) = (i : Int) := q_w0 i (by omega)
      have w2 : e_w (18 + (i : Int)) = ((18 + i : Nat) : Int) := by rw [e_ws_ (by omega) (by omega)]; omega
      rw [f_X11_beginsAnew_108, if_neg (show ¬ (6 : Int) ≤ (i : Int) by omega), g0, e_ws_ (x := (i : Int) + 1) (by omega) (by omega), w1, w2, Int.toNat_natCast, Int.toNat_natCast, u_r (show (68 : Nat) ≠ 72 by decide), u_r (show (68 : Nat) ≠ 72 by decide), g0, u_r (show 81 + i ≠ 72 by omega), u_r (show 81 + i ≠ 72 by omega)]
      by_cases z : n ≤ i
      · rw [if_pos (show (n : Int) ≤ (i : Int) by omega), if_pos hi2, if_pos (show (n : Int) ≤ (i : Int) by omega), if_pos (show 0 ≤ (i : Int) ∧ (i : Int) < 56 by omega), if_pos (show 0 ≤ ((18 + i : Nat) : Int) ∧ ((18 + i : Nat) : Int) < 56 by omega), if_neg (show ¬ i < n by omega), if_neg (show ¬ i < n by omega)]
      · rw [if_neg (show ¬ (n : Int) ≤ (i : Int) by omega), if_pos hi2, if_pos hi2, if_neg (show ¬ (n : Int) ≤ (i : Int) by omega), if_pos hi2, if_pos (show 0 ≤ (i : Int) ∧ (i : Int) < 56 by omega), if_pos (show 0 ≤ ((18 + i : Nat) : Int) ∧ ((18 + i : Nat) : Int) < 56 by omega), if_pos (show i < n by omega), if_pos (show i < n by omega)]) ⟨fun k hk => absurd hk (by omega), fun j hj => by rw [e1 j hj, if_neg (by omega), if_neg (by omega)], fun _ _ _ _ => rfl⟩
  obtain ⟨G, ⟨g1, g2⟩, hG⟩ := q_run 0 1 t (fun f (A : e_M) i => f_X11_beginsAnew_188 f i A) (fun i A => (∀ j, j < 56 → A 532 j = if 30 ≤ j ∧ j < 30 + i then F (101 + (j - 30)) 1 else F 532 j) ∧ ∀ r j, r ≠ 532 → A r j = F r j) (a := F) (fun i A hi hA => by
    obtain ⟨a1, a2⟩ := hA
    refine ⟨e_up A 532 (30 + i) (A (101 + i) 1), ⟨fun j hj => ?_, fun r j h => by rw [u_r h, a2 r j h]⟩, fun f hf => ?_⟩
    · rw [u_i, a1 j hj, a2 (101 + i) 1 (by omega)]
      by_cases z1 : j = 30 + i
      · rw [if_pos z1, if_pos (show 30 ≤ j ∧ j < 30 + (i + 1) by omega), show j - 30 = i by omega]
      · rw [if_neg z1]
        by_cases z4 : 30 ≤ j ∧ j < 30 + i
        · rw [if_pos z4, if_pos (show 30 ≤ j ∧ j < 30 + (i + 1) by omega)]
        · rw [if_neg z4, if_neg (show ¬ (30 ≤ j ∧ j < 30 + (i + 1)) by omega)]
    · have g0 : A 68 2 = (t : Int) := by rw [a2 68 2 (by decide), f3 68 2 (by decide) (by decide), e2 68 2 (by decide), d2 68 2 (by decide)]; exact h2
      have w2 : e_w (30 + (i : Int)) = ((30 + i : Nat) : Int) := by rw [e_ws_ (by omega) (by omega)]; omega
      rw [f_X11_beginsAnew_188, g0, if_neg (show ¬ (t : Int) ≤ (i : Int) by omega), if_pos (show 0 ≤ (i : Int) ∧ (i : Int) < 12 by omega), w2, if_pos (show 0 ≤ ((30 + i : Nat) : Int) ∧ ((30 + i : Nat) : Int) < 56 by omega), Int.toNat_natCast, Int.toNat_natCast, e_ws_ (x := (i : Int) + 1) (by omega) (by omega)]) ⟨fun j hj => by rw [if_neg (by omega)], fun _ _ _ => rfl⟩
  refine ⟨G, fun f hf => ?_, fun d hd => ?_, fun p hp => ?_, fun p hp => ?_, fun j h1 hj => ?_, fun r j h1 h2 h3 => by rw [g2 r j h3, f3 r j h2 h3, e2 r j h3, d2 r j h1]⟩
  · obtain ⟨f', rfl⟩ : ∃ f', f = ((((f' + 1) + t * 1 + 1) + 6 * 1 + 1) + 56 * 1 + 1) + 6 * 1 := ⟨f - 72 - t, by omega⟩
    refine Eq.trans (hD _ (by omega)) ?_
    show f_X11_beginsAnew_61 ((((f' + 1) + t * 1 + 1) + 6 * 1 + 1) + 56 * 1 + 1) 6 D = _
    rw [f_X11_beginsAnew_61, if_pos (by decide)]
    refine Eq.trans (hE _ (by omega)) ?_
    show f_X11_beginsAnew_87 (((f' + 1) + t * 1 + 1) + 6 * 1 + 1) 56 E = _
    rw [f_X11_beginsAnew_87, if_pos (by decide)]
    refine Eq.trans (hF _ (by omega)) ?_
    show f_X11_beginsAnew_108 ((f' + 1) + t * 1 + 1) 6 F = _
    rw [f_X11_beginsAnew_108, if_pos (by decide)]
    refine Eq.trans (hG _ (by omega)) ?_
    show f_X11_beginsAnew_188 (f' + 1) (t : Int) G = _
    have g0 : G 68 2 = (t : Int) := by rw [g2 68 2 (by decide), f3 68 2 (by decide) (by decide), e2 68 2 (by decide), d2 68 2 (by decide)]; exact h2
    rw [f_X11_beginsAnew_188, g0, if_pos (Int.le_refl _)]
  · rw [g2 70 d (by decide), f3 70 d (by decide) (by decide), e2 70 d (by decide)]; exact d1 d hd
  · rw [g2 72 p (by decide), f1 p hp, e2 71 p (by decide), d2 71 p (by decide)]
  · rw [g1 p (by omega), if_neg (by omega), f2 p (by omega), if_pos hp, e2 (81 + p) 0 (by omega), d2 (81 + p) 0 (by omega)]
  · rw [g1 j hj, f2 j hj, if_neg (show ¬ j < 6 by omega), f3 _ 1 (by omega) (by omega), e2 _ 1 (by omega), d2 _ 1 (by omega)]
    by_cases z1 : 18 ≤ j ∧ j < 24
    · rw [if_pos z1, if_neg (by omega), if_pos (by omega)]
    · rw [if_neg z1, if_neg (show ¬ (18 ≤ j ∧ j < 18 + 6) by omega)]
theorem z_ba {M : e_M} {n m t : Nat} (hn : n ≤ 6) (ht : t ≤ 12) (h0 : M 67 0 = (n : Int)) (h1 : M 67 1 = (m : Int)) (h2 : M 67 2 = (t : Int)) : ∃ N, (∀ f, 200 < f → f_X11_beginsAnew f M = some (0, N)) ∧ N 68 0 = (n : Int) ∧ N 68 1 = (m : Int) ∧ N 68 2 = (t : Int) ∧ (∀ p, p < n → N (81 + p) 0 = M (74 + p) 0 ∧ N (81 + p) 1 = M (74 + p) 1 ∧ N 72 p = M 71 p) ∧ (∀ d, d < 6 → N 70 d = M 69 d) ∧ (∀ k, k < t → N (101 + k) 0 = M (88 + k) 0 ∧ N (101 + k) 1 = M (88 + k) 1 ∧ N (101 + k) 2 = M (88 + k) 2) ∧ (∀ j, j < 56 → N 532 j = x_L n t M j) ∧ N 64 21 = 0 ∧ N 64 35 = 0 ∧ N 64 36 = 0 ∧ N 64 37 = 0 ∧ N 64 38 = 0 ∧ ∀ r j, ¬ (r = 68 ∨ r = 70 ∨ r = 72 ∨ (81 ≤ r ∧ r ≤ 86) ∨ (101 ≤ r ∧ r ≤ 112) ∨ r = 532) → ¬ (r = 64 ∧ (j = 21 ∨ (35 ≤ j ∧ j ≤ 38))) → N r j = M r j := by
  obtain ⟨A, ⟨a1, a2⟩, hA⟩ := q_run 0 1 3 (fun f (A : e_M) i => f_X11_beginsAnew_2 f i A) (fun i A => (∀ k, k < i → A 68 k = M 67 k) ∧ ∀ r j, r ≠ 68 → A r j = M r j) (a := M) (fun i A hi hA => by
    obtain ⟨a1, a2⟩ := hA
    refine ⟨e_up A 68 i (A 67 i), ⟨fun k hk => ?_, fun r j h => by rw [u_r h, a2 r j h]⟩, fun f hf => ?_⟩
    · rw [u_i]
      by_cases e : k = i
      · rw [if_pos e, a2 67 i (by decide), e]
      · rw [if_neg e]; exact a1 k (by omega)
    · rw [f_X11_beginsAnew_2, if_neg (show ¬ (3 : Int) ≤ (i : Int) by omega), if_pos (show 0 ≤ (i : Int) ∧ (i : Int) < 3 by omega), if_pos (show 0 ≤ (i : Int) ∧ (i : Int) < 3 by omega), Int.toNat_natCast, e_ws_ (x := (i : Int) + 1) (by omega) (by omega)]) ⟨fun k hk => absurd hk (by omega), fun _ _ _ => rfl⟩
  obtain ⟨B, b1, b2, b3⟩ := z_lyp (M := A) hn
  obtain ⟨C, c1, c2, c3⟩ := z_lyt (M := B) ht
  have A0 : A 68 0 = (n : Int) := by rw [a1 0 (by omega)]; exact h0
  have B2 : B 68 2 = (t : Int) := by rw [b3 68 2 (by omega), a1 2 (by omega)]; exact h2
  obtain ⟨N, n1, n2, n3, n4, n5, n6⟩ := z_ba5 (m := m) (M := C) hn ht (by rw [c3 68 0 (by omega), b3 68 0 (by omega)]; exact A0) (by rw [c3 68 2 (by omega)]; exact B2)
  have fr : ∀ r j, ¬ (r = 68 ∨ r = 70 ∨ r = 72 ∨ (81 ≤ r ∧ r ≤ 86) ∨ (101 ≤ r ∧ r ≤ 112) ∨ r = 532) → N r j = M r j := fun r j h => by rw [n6 r j (by omega) (by omega) (by omega), c3 r j (by omega), b3 r j (by omega), a2 r j (by omega)]
  have CM : ∀ r j, ¬ (r = 68 ∨ (81 ≤ r ∧ r ≤ 86) ∨ (101 ≤ r ∧ r ≤ 112)) → C r j = M r j := fun r j h => by rw [c3 r j (by omega), b3 r j (by omega), a2 r j (by omega)]
  have N68 : ∀ j, j < 3 → N 68 j = M 67 j := fun j hj => by rw [n6 68 j (by omega) (by omega) (by omega), c3 68 j (by omega), b3 68 j (by omega), a1 j hj]
  have C81 : ∀ p, p < n → C (81 + p) 0 = M (74 + p) 0 ∧ C (81 + p) 1 = M (74 + p) 1 := fun p hp => by
    rw [c3 _ 0 (by omega), c3 _ 1 (by omega), (b2 p hp).1, (b2 p hp).2, a2 _ 0 (by omega), a2 _ 1 (by omega)]; exact ⟨rfl, rfl⟩
  have C101 : ∀ k, k < t → C (101 + k) 0 = M (88 + k) 0 ∧ C (101 + k) 1 = M (88 + k) 1 ∧ C (101 + k) 2 = M (88 + k) 2 := fun k hk => by
    rw [(c2 k hk).1, (c2 k hk).2.1, (c2 k hk).2.2, b3 _ 0 (by omega), b3 _ 1 (by omega), b3 _ 2 (by omega), a2 _ 0 (by omega), a2 _ 1 (by omega), a2 _ 2 (by omega)]; exact ⟨rfl, rfl, rfl⟩
  have up : ∀ r j, r ≠ 64 → (e_up (e_up (e_up (e_up (e_up N 64 21 0) 64 35 0) 64 36 0) 64 37 0) 64 38 0) r j = N r j := fun r j h => by rw [u_r h, u_r h, u_r h, u_r h, u_r h]
  refine ⟨e_up (e_up (e_up (e_up (e_up N 64 21 0) 64 35 0) 64 36 0) 64 37 0) 64 38 0, fun f hf => ?_, ?_, ?_, ?_, fun p hp => ?_, fun d hd => ?_, fun k hk => ?_, fun j hj => ?_, rfl, rfl, rfl, rfl, rfl, fun r j x1 x2 => ?_⟩
  · obtain ⟨f', rfl⟩ : ∃ f', f = (f' + 1) + 3 * 1 := ⟨f - 4, by omega⟩
    unfold f_X11_beginsAnew
    refine Eq.trans (hA _ (by omega)) ?_
    show f_X11_beginsAnew_2 (f' + 1) 3 A = _
    rw [f_X11_beginsAnew_2, if_pos (by decide), A0, b1 f' (by omega), f_bs, B2, c1 f' (by omega), f_bs]
    exact n1 f' (by omega)
  · rw [up 68 0 (by decide), N68 0 (by omega)]; exact h0
  · rw [up 68 1 (by decide), N68 1 (by omega)]; exact h1
  · rw [up 68 2 (by decide), N68 2 (by omega)]; exact h2
  · rw [up _ 0 (by omega), up _ 1 (by omega), up 72 p (by decide), n6 _ 0 (by omega) (by omega) (by omega), n6 _ 1 (by omega) (by omega) (by omega), n3 p (by omega), if_pos hp, CM 71 p (by omega)]
    exact ⟨(C81 p hp).1, (C81 p hp).2, rfl⟩
  · rw [up 70 d (by decide), n2 d hd, CM 69 d (by omega)]
  · rw [up _ 0 (by omega), up _ 1 (by omega), up _ 2 (by omega), n6 _ 0 (by omega) (by omega) (by omega), n6 _ 1 (by omega) (by omega) (by omega), n6 _ 2 (by omega) (by omega) (by omega)]
    exact C101 k hk
  · rw [up 532 j (by decide)]
    unfold x_L
    by_cases z : j < 6
    · rw [n4 j z, if_pos z]
      by_cases y : j < n
      · rw [if_pos y, if_pos y, (C81 j y).1]
      · rw [if_neg y, if_neg y]
    · rw [n5 j (by omega) hj, if_neg z]
      by_cases y : 18 ≤ j ∧ j < 24
      · rw [if_pos y, if_pos y]
      · rw [if_neg y, if_neg y]
        by_cases x : 30 ≤ j ∧ j < 30 + t
        · rw [if_pos x, if_pos x, (C101 (j - 30) (by omega)).2.1]
        · rw [if_neg x, if_neg x]
  · by_cases er : r = 64
    · subst er
      rw [u_c (by omega), u_c (by omega), u_c (by omega), u_c (by omega), u_c (by omega), fr 64 j (by omega)]
    · rw [up r j er, fr r j x1]
