/-! OPERATIONS, 25: book -/
theorem z_lay {M : e_M} {c : Nat} (hc : c ≤ 6) : ∃ N, (∀ f, 40 < f → f_X11_lays_m_line f (c : Int) M = some (0, N)) ∧ (∀ k, k < c → N (436 + k) 0 = M (443 + k) 0 ∧ N (436 + k) 1 = M (443 + k) 1) ∧ ∀ a j, ¬ (436 ≤ a ∧ a ≤ 441) → N a j = M a j := by
  obtain ⟨A, ⟨a1, a2⟩, hA⟩ := q_run 0 4 c (fun f (A : e_M) i => f_X11_lays_m_line_L2 f 0 (c : Int) i 0 A) (fun i A => (∀ k, k < i → A (436 + k) 0 = M (443 + k) 0 ∧ A (436 + k) 1 = M (443 + k) 1) ∧ ∀ a j, ¬ (436 ≤ a ∧ a ≤ 441) → A a j = M a j) (a := M) (fun i A hi hA => by
    obtain ⟨a1, a2⟩ := hA
    refine ⟨e_up (e_up A (436 + i) 0 (A (443 + i) 0)) (436 + i) 1 (A (443 + i) 1), ⟨fun k hk => ?_, fun a j ha => by rw [u_r (by omega), u_r (by omega), a2 a j ha]⟩, fun f hf => ?_⟩
    · by_cases e : k = i
      · subst e
        rw [u_c (by decide), u_s, u_s, a2 _ 0 (by omega), a2 _ 1 (by omega)]
        exact ⟨rfl, rfl⟩
      · rw [u_r (by omega), u_r (by omega), u_r (by omega), u_r (by omega)]
        exact a1 k (by omega)
    · rw [f_X11_lays_m_line_L2, if_pos rfl, if_neg (show ¬ (c : Int) ≤ (i : Int) by omega), f_X11_lays_m_line_L2, if_neg (show ¬ (1 : Nat) = 0 by decide), if_pos (show 0 ≤ (i : Int) ∧ (i : Int) < 6 by omega), if_neg (show ¬ (2 : Int) ≤ 0 by decide), if_pos (show 0 ≤ (i : Int) ∧ (i : Int) < 6 by omega), if_pos (show 0 ≤ (i : Int) ∧ (i : Int) < 6 by omega), if_pos (show (0 : Int) ≤ 0 ∧ (0 : Int) < 2 by decide), if_pos (show (0 : Int) ≤ 0 ∧ (0 : Int) < 2 by decide), Int.toNat_natCast, show e_w (0 + 1) = 1 by decide, f_X11_lays_m_line_L2, if_neg (show ¬ (1 : Nat) = 0 by decide), if_pos (show 0 ≤ (i : Int) ∧ (i : Int) < 6 by omega), if_neg (show ¬ (2 : Int) ≤ 1 by decide), if_pos (show 0 ≤ (i : Int) ∧ (i : Int) < 6 by omega), if_pos (show 0 ≤ (i : Int) ∧ (i : Int) < 6 by omega), if_pos (show (0 : Int) ≤ 1 ∧ (1 : Int) < 2 by decide), if_pos (show (0 : Int) ≤ 1 ∧ (1 : Int) < 2 by decide), Int.toNat_natCast, show e_w (1 + 1) = 2 by decide, f_X11_lays_m_line_L2, if_neg (show ¬ (1 : Nat) = 0 by decide), if_pos (show 0 ≤ (i : Int) ∧ (i : Int) < 6 by omega), if_pos (show (2 : Int) ≤ 2 by decide), e_ws_ (x := (i : Int) + 1) (by omega) (by omega)]
      have e1 : (e_up A (436 + i) 0 (A (443 + i) 0)) (443 + i) 1 = A (443 + i) 1 := u_r (by omega)
      show f_X11_lays_m_line_L2 f 0 (c : Int) ((i : Int) + 1) 0 (e_up (e_up A (436 + i) 0 (A (443 + i) 0)) (436 + i) 1 ((e_up A (436 + i) 0 (A (443 + i) 0)) (443 + i) 1)) = _
      rw [e1]) ⟨fun k hk => absurd hk (by omega), fun _ _ _ => rfl⟩
  refine ⟨A, fun f hf => ?_, a1, a2⟩
  obtain ⟨f', rfl⟩ : ∃ f', f = (f' + 1) + c * 4 := ⟨f - 1 - c * 4, by omega⟩
  refine Eq.trans (hA (f' + 1) (by omega)) ?_
  show f_X11_lays_m_line_L2 (f' + 1) 0 (c : Int) (c : Int) 0 A = _
  rw [f_X11_lays_m_line_L2, if_pos rfl, if_pos (Int.le_refl _)]
/-- a text is begun, on both sides -/
theorem t_beg {M : e_M} {e : Nat} (hK2 : q_K2 M) : f_X7_beginReading (e : Int) M = some (0, e_up (e_up (e_up (e_up (e_up M 2 2 (e : Int)) 2 1 0) 2 3 0) 2 4 0) 2 5 (-1)) ∧ t_C (fun j => M 65 j) e 0 0 (-1) (e_up (e_up (e_up (e_up (e_up M 2 2 (e : Int)) 2 1 0) 2 3 0) 2 4 0) 2 5 (-1)) ∧ ∀ j, j < 600 → 0 ≤ M 65 j ∧ M 65 j ≤ 255 :=
  ⟨rfl, ⟨rfl, rfl, rfl, rfl, fun j hj => (hK2 j hj).2.2⟩, fun j hj => ⟨(hK2 j hj).1, (hK2 j hj).2.1⟩⟩
theorem t_str {T : Nat → Int} {N : e_M} {e : Nat} (hT : ∀ j, j < 600 → 0 ≤ T j ∧ T j ≤ 255) (he : e ≤ 600) (h65 : ∀ j, j < 600 → N 65 j = T j) : ∃ N', (∀ f, 601 < f → f_X11_starts f (e : Int) N = some (0, N')) ∧ t_m T e (t_s T e 0) 0 (-1) N' ∧ N' 64 1 = 0 ∧ N' 64 7 = 0 ∧ N' 64 8 = 0 ∧ ∀ a j, ¬ (a = 64 ∧ (j = 1 ∨ j = 2 ∨ (4 ≤ j ∧ j ≤ 8))) → N' a j = N a j := by
  obtain ⟨N', k1, k2, k3⟩ := t_bl hT he (e - 0) 0 0 (-1) (e_up (e_up (e_up (e_up (e_up (e_up (e_up N 64 1 0) 64 2 (e : Int)) 64 4 0) 64 5 0) 64 6 (-1)) 64 7 0) 64 8 0) rfl (by omega) ⟨rfl, rfl, rfl, rfl, h65⟩
  refine ⟨N', fun f hf => ?_, k2, by rw [k3 64 1 (by omega)]; rfl, by rw [k3 64 7 (by omega)]; rfl, by rw [k3 64 8 (by omega)]; rfl, fun a j h => ?_⟩
  · unfold f_X11_starts
    rw [k1 f (by omega), f_bs]
  · rw [k3 a j (by omega)]
    by_cases ea : a = 64
    · subst ea
      rw [u_c (by omega), u_c (by omega), u_c (by omega), u_c (by omega), u_c (by omega), u_c (by omega), u_c (by omega)]
    · rw [u_r ea, u_r ea, u_r ea, u_r ea, u_r ea, u_r ea, u_r ea]
theorem o_book {F : Nat} (hF : 2000 < F) (p : Int) : q_o2 (f_X10_book F p) (f_X11_book F p) k_c1 := by
  intro M k
  have k' := k
  obtain ⟨n, m, t, wa, sk, wo, ow, fi, l, cw, cv, L, hT, hK1, hK2, hLa, hK5, hLi, hK7, hK8⟩ := k'
  have h6 := hT.1
  have u1 := hK1.1
  have u2 := hK1.2.1
  have u3 := hK1.2.2.1
  by_cases hp : ¬ (0 ≤ p ∧ p ≤ min (M 2 1) 60)
  · refine q_ref1 (b := 0) (c := 1) k rfl (by decide) ?_ ?_
    · unfold f_X10_book f_X10_needText
      rw [r_nw, if_neg hp, f_tr, f_tr]
    · unfold f_X11_book
      rw [u_c (show (1 : Nat) ≠ 0 by decide), u_r (show (64 : Nat) ≠ 1 by decide), u3, r_in, f_bs]
      by_cases h1 : 0 ≤ p ∧ p ≤ M 2 1
      · rw [if_pos h1, if_neg (by decide), if_neg (by omega), r_bada rfl (by decide), f_bs, if_neg (by decide)]
        rfl
      · rw [if_neg h1, if_pos rfl, r_bada rfl (by decide), f_bs, if_neg (by decide)]
        rfl
  replace hp := Classical.not_not.mp hp
  obtain ⟨e, he, rfl⟩ := q_nat (n := 61) (p := p) (by omega)
  obtain ⟨b1, b2, hTT⟩ := t_beg (e := e) hK2
  have b3 : t_C (fun j => M 65 j) e 0 0 (-1) (e_up (e_up (e_up (e_up (e_up (e_up (e_up M 2 2 (e : Int)) 2 1 0) 2 3 0) 2 4 0) 2 5 (-1)) 30 0 0) 30 1 0) := b2
  obtain ⟨c', b', P', D', fl, fp, M1, k1, kO, kF, kR⟩ := t_book (T := fun j => M 65 j) hTT (by omega : e ≤ 600) h6 6 0 0 0 (fun _ => 0) (fun _ => 0) _ (by omega) (Nat.zero_le _) b3 rfl rfl (Nat.two_pow_pos n) (by decide) ⟨fun k hk => absurd hk (by omega), fun k k' _ hk => absurd hk (by omega), fun p => ⟨fun h => by rw [Nat.zero_testBit] at h; exact absurd h (by decide), fun ⟨k, hk, _⟩ => absurd hk (by omega)⟩⟩
  have fr1 : ∀ a j, ¬ (a = 2 ∧ 1 ≤ j ∧ j ≤ 6) → ¬ (a = 30 ∧ j < 2) → a ≠ 31 → M1 a j = M a j := fun a j x1 x2 x3 => by
    rw [kF a j (by omega) x2 x3]
    by_cases e2 : a = 2
    · subst e2
      rw [u_r (by decide), u_r (by decide), u_c (by omega), u_c (by omega), u_c (by omega), u_c (by omega), u_c (by omega)]
    · by_cases e3 : a = 30
      · subst e3
        rw [u_c (by omega), u_c (by omega), u_r e2, u_r e2, u_r e2, u_r e2, u_r e2]
      · rw [u_r e3, u_r e3, u_r e2, u_r e2, u_r e2, u_r e2, u_r e2]
  have M21 : M1 2 1 = 0 := by rw [kF 2 1 (by omega) (by omega) (by omega)]; rfl
  have cls : f_X10_book F (e : Int) M = (if fl = 0 then some (.inl ((c' : Int)), e_cp (e_up (e_up M1 28 0 (M1 30 0)) 28 1 (M1 30 1)) 31 0 29 0 6) else some (.inl (e_w (fl - 10)), M1)) := by
    unfold f_X10_book f_X10_needText f_X0_readFrom_bookDraft f_X0_drop_bookDraft
    rw [r_nw, if_pos hp, f_tl, f_tl, b1, f_bs, f_bs]
    have e4 : (e_up (e_up (e_up (e_up (e_up M 2 2 (e : Int)) 2 1 0) 2 3 0) 2 4 0) 2 5 (-1)) 4 0 = (n : Int) := hT.2.2.2.1
    rw [e4]
    refine Eq.trans (congrArg (fun w => f_b w _) (k1 F (by omega))) ?_
    unfold f_X7_flawed f_X7_flawAnswer f_X0_copyFrom_book
    rw [f_bs, kO.1]
    by_cases hf : fl = 0
    · have h30 := (kO.2.2 hf).2.2.1
      rw [if_pos hf, f_bs, if_pos rfl, f_bs, if_pos hf, cp_r (show (28 : Nat) ≠ 29 by decide), u_c (show (0 : Nat) ≠ 1 by decide), u_s, u_r (show (30 : Nat) ≠ 28 by decide), h30]
    · rw [if_neg hf, f_bs, if_neg (by decide), f_bs, kO.1, if_neg hf]
  -- the model, from any memory like it
  have mdl : ∀ (A : e_M) (v : Int), (∀ a j, a ≠ 28 → a ≠ 29 → A a j = M1 a j) → ∃ N, (∀ a j, ¬ (a = 64 ∧ (j ≤ 2 ∨ (4 ≤ j ∧ j ≤ 8))) → ¬ (443 ≤ a ∧ a ≤ 448) → a ≠ 557 → N a j = A a j) ∧ N 64 0 = 0 ∧ N 64 1 = 0 ∧ N 557 0 = v ∧ (fl = 0 → t_ro c' P' D' N) ∧ ∃ g, 650 < g ∧ f_X11_book F (e : Int) (e_up A 557 0 v) = if fl = 0 then (f_b (f_X11_lays_m_line g (c' : Int) (e_up (e_up N 64 3 (-1)) 64 35 (c' : Int))) fun _ NN => some ((c' : Int), NN)) else some (e_w (fl - 10), e_up N 64 3 fp) := by
    intro A v hA
    have A65 : ∀ j, j < 600 → (e_up (e_up A 557 0 v) 64 0 0) 65 j = (fun j => M 65 j) j := fun j hj => by
      rw [u_r (by decide), u_r (by decide), hA 65 j (by decide) (by decide), fr1 65 j (by omega) (by omega) (by omega)]
    obtain ⟨N1, s1, s2, s3, _, _, s6⟩ := t_str (e := e) hTT (by omega) A65
    obtain ⟨N, v1, v2, v3⟩ := kR N1 (e : Int) s2 (by rw [s6 68 0 (by omega), u_r (by decide), u_r (by decide), hA 68 0 (by decide) (by decide), fr1 68 0 (by omega) (by omega) (by omega)]; exact hT.2.2.2.2.2.2.1) (fun k hk => absurd hk (by omega))
    obtain ⟨g, v4, v5⟩ := v1 F (by omega)
    refine ⟨N, fun a j x1 x2 x3 => ?_, ?_, ?_, ?_, v3, g, v4, ?_⟩
    · rw [v2 a j (by omega) x2, s6 a j (by omega)]
      by_cases e1 : a = 64
      · subst e1
        rw [u_c (by omega), u_r x3]
      · rw [u_r e1, u_r x3]
    · rw [v2 64 0 (by omega) (by omega), s6 64 0 (by omega), u_s]
    · rw [v2 64 1 (by omega) (by omega)]; exact s3
    · rw [v2 557 0 (by omega) (by omega), s6 557 0 (by omega), u_r (by decide), u_s]
    · have e1 : (e_up (e_up A 557 0 v) 64 0 0) 64 1 = M 2 1 := by rw [u_c (by decide), u_r (by decide), hA 64 1 (by decide) (by decide), fr1 64 1 (by omega) (by omega) (by omega)]; exact u3
      unfold f_X11_book
      rw [e1, r_in, f_bs, if_pos (show 0 ≤ (e : Int) ∧ (e : Int) ≤ M 2 1 by omega), if_neg (by decide), if_pos (show (e : Int) ≤ 60 by omega), r_bad0 rfl, f_bs, if_pos rfl, s1 F (by omega), f_bs]
      exact v5
  left
  by_cases hf : fl = 0
  · obtain ⟨o1, o2, o3, o4, o5, o6⟩ := kO.2.2 hf
    obtain ⟨N, w1, w2, w3, w4, w5, g, w6, w7⟩ := mdl (e_cp (e_up (e_up M1 28 0 (M1 30 0)) 28 1 (M1 30 1)) 31 0 29 0 6) (c' : Int) (fun a j x1 x2 => by rw [cp_r x2, u_r x1, u_r x1])
    obtain ⟨N2, y1, y2, y3⟩ := z_lay (M := e_up (e_up N 64 3 (-1)) 64 35 (c' : Int)) o2
    rw [if_pos hf] at cls w7
    have w5' := w5 hf
    have frN : ∀ a j, ¬ (a = 2 ∧ 1 ≤ j ∧ j ≤ 6) → ¬ (a = 30 ∧ j < 2) → a ≠ 31 → a ≠ 28 → a ≠ 29 → ¬ (a = 64 ∧ (j ≤ 8 ∨ j = 35)) → ¬ (436 ≤ a ∧ a ≤ 441) → ¬ (443 ≤ a ∧ a ≤ 448) → a ≠ 557 → N2 a j = M a j := fun a j x1 x2 x3 x4 x5 x6 x7 x8 x9 => by
      rw [y3 a j x7]
      by_cases e1 : a = 64
      · subst e1
        rw [u_c (by omega), u_c (by omega), w1 64 j (by omega) x8 x9, cp_r x5, u_r x4, u_r x4, fr1 64 j x1 x2 x3]
      · rw [u_r e1, u_r e1, w1 a j (by omega) x8 x9, cp_r x5, u_r x4, u_r x4, fr1 a j x1 x2 x3]
    have N2k : ∀ a j, a < 64 → N2 a j = (e_cp (e_up (e_up M1 28 0 (M1 30 0)) 28 1 (M1 30 1)) 31 0 29 0 6) a j := fun a j ha => by rw [y3 a j (by omega), u_r (by omega), u_r (by omega), w1 a j (by omega) (by omega) (by omega)]
    have row : ∀ k, k < c' → N2 (436 + k) 0 = (P' k : Int) ∧ N2 (436 + k) 1 = D' k := fun k hk => by
      rw [(y2 k hk).1, (y2 k hk).2, u_r (by omega), u_r (by omega), u_r (by omega), u_r (by omega)]
      exact w5' k hk
    have N29 : ∀ q, q < 6 → N2 29 q = M1 31 q := fun q hq => by rw [N2k 29 q (by omega), cp_i (by omega), u_r (by decide), u_r (by decide), show 0 + (q - 0) = q by omega]
    refine ⟨(c' : Int), _, N2, cls, ?_, ?_, ?_, n, m, t, wa, sk, wo, ow, fi, l, cw, cv, L, q_T_f (fun a j z => frN a j (by unfold q_F3 at z; omega) (by unfold q_F3 at z; omega) (by unfold q_F3 at z; omega) (by unfold q_F3 at z; omega) (by unfold q_F3 at z; omega) (by unfold q_F3 at z; omega) (by unfold q_F3 at z; omega) (by unfold q_F3 at z; omega) (by unfold q_F3 at z; omega)) hT, ?_, q_K2_f (fun a j z => frN a j (by unfold q_F2 at z; omega) (by unfold q_F2 at z; omega) (by unfold q_F2 at z; omega) (by unfold q_F2 at z; omega) (by unfold q_F2 at z; omega) (by unfold q_F2 at z; omega) (by unfold q_F2 at z; omega) (by unfold q_F2 at z; omega) (by unfold q_F2 at z; omega)) hK2, q_La_f (fun a j z => frN a j (by unfold q_F4 at z; omega) (by unfold q_F4 at z; omega) (by unfold q_F4 at z; omega) (by unfold q_F4 at z; omega) (by unfold q_F4 at z; omega) (by unfold q_F4 at z; omega) (by unfold q_F4 at z; omega) (by unfold q_F4 at z; omega) (by unfold q_F4 at z; omega)) hLa, ⟨c', b', o2, ?_, ?_, ?_, ?_, fun q hq => ?_⟩, q_Li_f (fun a j z => frN a j (by unfold q_F6 at z; omega) (by unfold q_F6 at z; omega) (by unfold q_F6 at z; omega) (by unfold q_F6 at z; omega) (by unfold q_F6 at z; omega) (by unfold q_F6 at z; omega) (by unfold q_F6 at z; omega) (by unfold q_F6 at z; omega) (by unfold q_F6 at z; omega)) hLi, q_K7_f (fun a j z => frN a j (by unfold q_F7 at z; omega) (by unfold q_F7 at z; omega) (by unfold q_F7 at z; omega) (by unfold q_F7 at z; omega) (by unfold q_F7 at z; omega) (by unfold q_F7 at z; omega) (by unfold q_F7 at z; omega) (by unfold q_F7 at z; omega) (by unfold q_F7 at z; omega)) hK7, q_K8_f (fun a j z => frN a j (by unfold q_F8 at z; omega) (by unfold q_F8 at z; omega) (by unfold q_F8 at z; omega) (by unfold q_F8 at z; omega) (by unfold q_F8 at z; omega) (by unfold q_F8 at z; omega) (by unfold q_F8 at z; omega) (by unfold q_F8 at z; omega) (by unfold q_F8 at z; omega)) hK8⟩
    · rw [w7, y1 g (by omega), f_bs]
    · rw [y3 64 0 (by omega), u_c (by decide), u_c (by decide)]; exact w2
    · rw [y3 557 0 (by omega), u_r (by decide), u_r (by decide)]; exact w4
    · have e1 : N2 2 1 = 0 := by rw [N2k 2 1 (by omega), cp_r (by decide), u_r (by decide), u_r (by decide)]; exact M21
      have e2 : N2 2 5 = -1 := by rw [N2k 2 5 (by omega), cp_r (by decide), u_r (by decide), u_r (by decide), kO.2.1]; exact o1
      have e3 : N2 64 1 = 0 := by rw [y3 64 1 (by omega), u_c (by decide), u_c (by decide)]; exact w3
      have e4 : N2 64 3 = -1 := by rw [y3 64 3 (by omega), u_c (by decide), u_s]
      unfold q_K1
      rw [e1, e2, e3, e4, frN 66 0 (by omega) (by omega) (by omega) (by omega) (by omega) (by omega) (by omega) (by omega) (by omega), frN 1 16 (by omega) (by omega) (by omega) (by omega) (by omega) (by omega) (by omega) (by omega) (by omega), frN 66 1 (by omega) (by omega) (by omega) (by omega) (by omega) (by omega) (by omega) (by omega) (by omega), frN 1 17 (by omega) (by omega) (by omega) (by omega) (by omega) (by omega) (by omega) (by omega) (by omega), frN 64 37 (by omega) (by omega) (by omega) (by omega) (by omega) (by omega) (by omega) (by omega) (by omega), frN 32 6 (by omega) (by omega) (by omega) (by omega) (by omega) (by omega) (by omega) (by omega) (by omega)]
      exact ⟨by decide, by decide, rfl, rfl, hK1.2.2.2.2⟩
    · exact Nat.lt_of_lt_of_le o5 (Nat.pow_le_pow_right (by omega) h6)
    · rw [N2k 28 0 (by omega), cp_r (by decide), u_c (by decide), u_s]; exact o3
    · rw [y3 64 35 (by omega), u_s]
    · rw [N2k 28 1 (by omega), cp_r (by decide), u_s]; exact o4
    · by_cases hbq : b'.testBit q = true
      · obtain ⟨k, hk, hPk⟩ := (o6.2.2 q).mp hbq
        have hD := o6.1 k hk
        refine Or.inr ⟨hbq, k, hk, by rw [(row k hk).1, hPk], by rw [(row k hk).2, N29 q (by omega), ← hPk, hD.2.1], by rw [N29 q (by omega), ← hPk, hD.2.1]; exact hD.2.2.1, by rw [N29 q (by omega), ← hPk, hD.2.1]; exact hD.2.2.2, fun k' hk' h => ?_⟩
        rw [(row k' (by omega)).1] at h
        exact o6.2.1 k' k hk' hk (by omega)
      · refine Or.inl ⟨by simpa using hbq, fun k hk h => hbq ((o6.2.2 q).mpr ⟨k, hk, ?_⟩)⟩
        rw [(row k hk).1] at h
        omega
  · obtain ⟨N, w1, w2, w3, w4, w5, g, w6, w7⟩ := mdl M1 (e_w (fl - 10)) (fun a j _ _ => rfl)
    rw [if_neg hf] at cls w7
    have frN : ∀ a j, ¬ (a = 2 ∧ 1 ≤ j ∧ j ≤ 6) → ¬ (a = 30 ∧ j < 2) → a ≠ 31 → ¬ (a = 64 ∧ j ≤ 8) → ¬ (443 ≤ a ∧ a ≤ 448) → a ≠ 557 → (e_up N 64 3 fp) a j = M a j := fun a j x1 x2 x3 x6 x8 x9 => by
      by_cases e1 : a = 64
      · subst e1
        rw [u_c (by omega), w1 64 j (by omega) x8 x9, fr1 64 j x1 x2 x3]
      · rw [u_r e1, w1 a j (by omega) x8 x9, fr1 a j x1 x2 x3]
    refine ⟨e_w (fl - 10), M1, e_up N 64 3 fp, cls, w7, ?_, ?_, n, m, t, wa, sk, wo, ow, fi, l, cw, cv, L, q_T_f (fun a j z => frN a j (by unfold q_F3 at z; omega) (by unfold q_F3 at z; omega) (by unfold q_F3 at z; omega) (by unfold q_F3 at z; omega) (by unfold q_F3 at z; omega) (by unfold q_F3 at z; omega)) hT, ?_, q_K2_f (fun a j z => frN a j (by unfold q_F2 at z; omega) (by unfold q_F2 at z; omega) (by unfold q_F2 at z; omega) (by unfold q_F2 at z; omega) (by unfold q_F2 at z; omega) (by unfold q_F2 at z; omega)) hK2, q_La_f (fun a j z => frN a j (by unfold q_F4 at z; omega) (by unfold q_F4 at z; omega) (by unfold q_F4 at z; omega) (by unfold q_F4 at z; omega) (by unfold q_F4 at z; omega) (by unfold q_F4 at z; omega)) hLa, q_K5_f h6 (fun a j z => frN a j (by unfold q_F5 at z; omega) (by unfold q_F5 at z; omega) (by unfold q_F5 at z; omega) (by unfold q_F5 at z; omega) (by unfold q_F5 at z; omega) (by unfold q_F5 at z; omega)) hK5, q_Li_f (fun a j z => frN a j (by unfold q_F6 at z; omega) (by unfold q_F6 at z; omega) (by unfold q_F6 at z; omega) (by unfold q_F6 at z; omega) (by unfold q_F6 at z; omega) (by unfold q_F6 at z; omega)) hLi, q_K7_f (fun a j z => frN a j (by unfold q_F7 at z; omega) (by unfold q_F7 at z; omega) (by unfold q_F7 at z; omega) (by unfold q_F7 at z; omega) (by unfold q_F7 at z; omega) (by unfold q_F7 at z; omega)) hK7, q_K8_f (fun a j z => frN a j (by unfold q_F8 at z; omega) (by unfold q_F8 at z; omega) (by unfold q_F8 at z; omega) (by unfold q_F8 at z; omega) (by unfold q_F8 at z; omega) (by unfold q_F8 at z; omega)) hK8⟩
    · rw [u_c (by decide)]; exact w2
    · rw [u_r (by decide)]; exact w4
    · have e1 : (e_up N 64 3 fp) 2 1 = 0 := by rw [u_r (by decide), w1 2 1 (by omega) (by omega) (by omega)]; exact M21
      have e2 : (e_up N 64 3 fp) 2 5 = fp := by rw [u_r (by decide), w1 2 5 (by omega) (by omega) (by omega)]; exact kO.2.1
      have e3 : (e_up N 64 3 fp) 64 1 = 0 := by rw [u_c (by decide)]; exact w3
      unfold q_K1
      rw [e1, e2, e3, u_s, frN 66 0 (by omega) (by omega) (by omega) (by omega) (by omega) (by omega), frN 1 16 (by omega) (by omega) (by omega) (by omega) (by omega) (by omega), frN 66 1 (by omega) (by omega) (by omega) (by omega) (by omega) (by omega), frN 1 17 (by omega) (by omega) (by omega) (by omega) (by omega) (by omega), frN 64 37 (by omega) (by omega) (by omega) (by omega) (by omega) (by omega), frN 32 6 (by omega) (by omega) (by omega) (by omega) (by omega) (by omega)]
      exact ⟨by decide, by decide, rfl, rfl, hK1.2.2.2.2⟩
