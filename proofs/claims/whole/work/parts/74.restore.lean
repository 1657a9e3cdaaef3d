/-! OPERATIONS, 24: restore -/
theorem o_restore {F : Nat} (hF : 2000 < F) : q_o1 f_X10_restore (f_X11_restore F) := by
  intro M k
  have k' := k
  obtain ⟨n, m, t, wa, sk, wo, ow, fi, l, cw, cv, L, hT, hK1, hK2, hLa, hK5, hLi, hK7, hK8⟩ := k'
  have h6 := hT.1
  have h12 := hT.2.2.1
  obtain ⟨g0, hg, gx, gm, gi⟩ := hK8
  by_cases c : g0 = 0
  · subst c
    refine ⟨-1, M, e_up M 64 0 0, ?_, ?_, q_K_f (q_fr_b1 (M := M) (M1 := M) (fun _ _ _ => rfl)) k⟩
    · unfold f_X10_restore
      rw [gx, if_neg (by decide)]
    · unfold f_X11_restore
      rw [u_c (show (38 : Nat) ≠ 0 by decide), gm, if_neg (by decide)]
  · obtain ⟨g, rfl⟩ : ∃ g, g0 = g + 1 := ⟨g0 - 1, by omega⟩
    obtain ⟨h, hh, i2, i3, i4, i5, i6⟩ := gi g (by omega)
    -- the class's side
    have h2 : (e_up M 1 15 (g : Int)) (58 + 2 * g) 1 = ((h + 1 : Nat) : Int) := by rw [u_r (by omega)]; exact i2
    have hpop := z_pop (b := 59 + 2 * g) (n9 := 765) h2 (by omega) (by omega)
    have hcnP : q_cn n t (fun j => M (552 + g) (1 + j)) (z_LD (45 * h) (59 + 2 * g) (e_up (e_up M 1 15 (g : Int)) (58 + 2 * g) 1 (h : Int))) := z_LD_cn (by omega) h6 h12 (by
      refine z_CLc h6 h12 (fun j hj => ?_) (fun j hj => rfl) i4
      show (e_up (e_up M 1 15 (g : Int)) (58 + 2 * g) 1 (h : Int)) (59 + 2 * g) (45 * h + j) = M (59 + 2 * g) (45 * h + j)
      rw [u_r (by omega), u_r (by omega)])
    have frP : ∀ a j, ¬ (36 ≤ a ∧ a ≤ 42) → ¬ (a = 58 + 2 * g ∧ j = 1) → ¬ (a = 1 ∧ j = 15) → (z_LD (45 * h) (59 + 2 * g) (e_up (e_up M 1 15 (g : Int)) (58 + 2 * g) 1 (h : Int))) a j = M a j := fun a j x1 x2 x3 => by
      rw [z_LD_r (by omega)]
      by_cases e : a = 58 + 2 * g
      · subst e
        rw [u_c (by omega), u_r (by omega)]
      · rw [u_r e]
        by_cases e1 : a = 1
        · subst e1
          exact u_c (by omega)
        · exact u_r e1
    have P1 : (z_LD (45 * h) (59 + 2 * g) (e_up (e_up M 1 15 (g : Int)) (58 + 2 * g) 1 (h : Int))) 1 15 = (g : Int) := by rw [z_LD_r (by omega), u_r (by omega), u_s]
    have P2 : (z_LD (45 * h) (59 + 2 * g) (e_up (e_up M 1 15 (g : Int)) (58 + 2 * g) 1 (h : Int))) (58 + 2 * g) 1 = (h : Int) := by rw [z_LD_r (by omega), u_s]
    generalize hP : z_LD (45 * h) (59 + 2 * g) (e_up (e_up M 1 15 (g : Int)) (58 + 2 * g) 1 (h : Int)) = P at hpop hcnP frP P1 P2
    have hcf := z_cf (M := P) (a0 := 55) (b0 := 56) (n0 := 765) (a1 := 58 + 2 * g) (b1 := 59 + 2 * g) (n1 := 765) (h := h) P2 (by omega) (by omega) (by omega)
    have frC : ∀ a j, ¬ (a = 55 ∧ j = 1) → a ≠ 56 → ¬ (a = 32 ∧ j = 6) → (e_up (e_cp (e_up P 55 1 (h : Int)) (59 + 2 * g) 0 56 0 (45 * h)) 32 6 0) a j = P a j := fun a j x1 x2 x3 => by
      by_cases e : a = 32
      · subst e
        rw [u_c (by omega), cp_r x2, u_r (by decide)]
      · rw [u_r e, cp_r x2]
        by_cases e1 : a = 55
        · subst e1; exact u_c (by omega)
        · exact u_r e1
    have C56 : ∀ j, j < 45 * h → (e_up (e_cp (e_up P 55 1 (h : Int)) (59 + 2 * g) 0 56 0 (45 * h)) 32 6 0) 56 j = M (59 + 2 * g) j := fun j hj => by
      rw [u_r (by decide), cp_i (by omega), u_r (by omega), show 0 + (j - 0) = j by omega, frP _ j (by omega) (by omega) (by omega)]
    have C55 : (e_up (e_cp (e_up P 55 1 (h : Int)) (59 + 2 * g) 0 56 0 (45 * h)) 32 6 0) 55 1 = (h : Int) := by rw [u_r (by decide), cp_r (by decide), u_s]
    have C32 : (e_up (e_cp (e_up P 55 1 (h : Int)) (59 + 2 * g) 0 56 0 (45 * h)) 32 6 0) 32 6 = 0 := u_s _ _ _ _
    have hcl : f_X10_restore M = some ((g : Int), e_up (e_cp (e_up P 55 1 (h : Int)) (59 + 2 * g) 0 56 0 (45 * h)) 32 6 0) := by
      unfold f_X10_restore f_X4_forgetRefused
      rw [gx, if_pos (by omega), e_ws_ (x := ((g + 1 : Nat) : Int) - 1) (by omega) (by omega), u_s, show ((g + 1 : Nat) : Int) - 1 = (g : Int) by omega, if_pos (by omega), Int.toNat_natCast, show 58 + 2 * g + 1 = 59 + 2 * g by omega, hpop, f_bs, P1, if_pos (by omega), Int.toNat_natCast, show 58 + 2 * g + 1 = 59 + 2 * g by omega, hcf, f_bs, f_bs, u_r (show (1 : Nat) ≠ 32 by decide), cp_r (show (1 : Nat) ≠ 56 by decide), u_r (show (1 : Nat) ≠ 55 by decide), P1]
    generalize hB : e_up (e_cp (e_up P 55 1 (h : Int)) (59 + 2 * g) 0 56 0 (45 * h)) 32 6 0 = B at frC C56 C55 C32 hcl
    have frB : ∀ a j, ¬ (36 ≤ a ∧ a ≤ 42) → ¬ (a = 58 + 2 * g ∧ j = 1) → ¬ (a = 1 ∧ j = 15) → ¬ (a = 55 ∧ j = 1) → a ≠ 56 → ¬ (a = 32 ∧ j = 6) → B a j = M a j := fun a j x1 x2 x3 x4 x5 x6 => by rw [frC a j x4 x5 x6, frP a j x1 x2 x3]
    have B1 : B 1 15 = (g : Int) := by rw [frC 1 15 (by omega) (by omega) (by omega)]; exact P1
    -- the model's side
    obtain ⟨N, n1, n2, n3, n4, n5, n6⟩ := z_lo (M := e_up (e_up B 64 0 0) 64 38 (g : Int)) (q := 552 + g) (by omega)
    have Bk : ∀ j, (e_up (e_up B 64 0 0) 64 38 (g : Int)) (552 + g) j = M (552 + g) j := fun j => by rw [u_r (by omega), u_r (by omega), frB _ j (by omega) (by omega) (by omega) (by omega) (by omega) (by omega)]
    have frN : ∀ a j, ¬ (36 ≤ a ∧ a ≤ 42) → ¬ (a = 58 + 2 * g ∧ j = 1) → ¬ (a = 1 ∧ j = 15) → ¬ (a = 55 ∧ j = 1) → a ≠ 56 → ¬ (a = 32 ∧ j = 6) → a ≠ 532 → ¬ (535 ≤ a ∧ a ≤ 550) → ¬ (a = 64 ∧ (j = 0 ∨ j = 36 ∨ j = 37 ∨ j = 38 ∨ j = 39)) → (e_up N 64 37 0) a j = M a j := fun a j x1 x2 x3 x4 x5 x6 x7 x8 x9 => by
      by_cases e : a = 64
      · subst e
        rw [u_c (by omega), n6 64 j x7 x8 (by omega), u_c (by omega), u_c (by omega), frB 64 j x1 x2 x3 x4 x5 x6]
      · rw [u_r e, n6 a j x7 x8 (by omega), u_r e, u_r e, frB a j x1 x2 x3 x4 x5 x6]
    have frNB : ∀ a j, a < 64 → (e_up N 64 37 0) a j = B a j := fun a j ha => by rw [u_r (by omega), n6 a j (by omega) (by omega) (by omega), u_r (by omega), u_r (by omega)]
    have N38 : N 64 38 = (g : Int) := by rw [n6 64 38 (by decide) (by omega) (by omega), u_s]
    refine ⟨(g : Int), B, e_up N 64 37 0, hcl, ?_, n, m, t, wa, sk, wo, ow, fi, l, cw, cv, (fun j => M (552 + g) (1 + j)), q_T_f (fun a j z => frN a j (by unfold q_F3 at z; omega) (by unfold q_F3 at z; omega) (by unfold q_F3 at z; omega) (by unfold q_F3 at z; omega) (by unfold q_F3 at z; omega) (by unfold q_F3 at z; omega) (by unfold q_F3 at z; omega) (by unfold q_F3 at z; omega) (by unfold q_F3 at z; omega)) hT, ?_, q_K2_f (fun a j z => frN a j (by unfold q_F2 at z; omega) (by unfold q_F2 at z; omega) (by unfold q_F2 at z; omega) (by unfold q_F2 at z; omega) (by unfold q_F2 at z; omega) (by unfold q_F2 at z; omega) (by unfold q_F2 at z; omega) (by unfold q_F2 at z; omega) (by unfold q_F2 at z; omega)) hK2, q_La_f (fun a j z => frN a j (by unfold q_F4 at z; omega) (by unfold q_F4 at z; omega) (by unfold q_F4 at z; omega) (by unfold q_F4 at z; omega) (by unfold q_F4 at z; omega) (by unfold q_F4 at z; omega) (by unfold q_F4 at z; omega) (by unfold q_F4 at z; omega) (by unfold q_F4 at z; omega)) hLa, q_K5_f hT.1 (fun a j z => frN a j (by unfold q_F5 at z; omega) (by unfold q_F5 at z; omega) (by unfold q_F5 at z; omega) (by unfold q_F5 at z; omega) (by unfold q_F5 at z; omega) (by unfold q_F5 at z; omega) (by unfold q_F5 at z; omega) (by unfold q_F5 at z; omega) (by unfold q_F5 at z; omega)) hK5, ⟨?_, ?_, i5⟩, ⟨h, hh, ?_, ?_, fun w hw => ⟨?_, ?_⟩⟩, g, by omega, ?_, ?_, fun i hi => ?_⟩
    · have e38 : (e_up B 64 0 0) 64 38 = ((g + 1 : Nat) : Int) := by rw [u_c (by decide), frB 64 38 (by omega) (by omega) (by omega) (by omega) (by omega) (by omega)]; exact gm
      unfold f_X11_restore
      rw [e38, if_pos (by omega), e_ws_ (x := ((g + 1 : Nat) : Int) - 1) (by omega) (by omega), u_s, show ((g + 1 : Nat) : Int) - 1 = (g : Int) by omega, if_pos (by omega), Int.toNat_natCast, n1 F (by omega), f_bs, u_c (show (38 : Nat) ≠ 37 by decide), N38]
    · unfold q_K1
      rw [u_s, frNB 32 6 (by omega), C32, frN 2 1 (by omega) (by omega) (by omega) (by omega) (by omega) (by omega) (by omega) (by omega) (by omega), frN 64 1 (by omega) (by omega) (by omega) (by omega) (by omega) (by omega) (by omega) (by omega) (by omega), frN 64 3 (by omega) (by omega) (by omega) (by omega) (by omega) (by omega) (by omega) (by omega) (by omega), frN 2 5 (by omega) (by omega) (by omega) (by omega) (by omega) (by omega) (by omega) (by omega) (by omega), frN 66 0 (by omega) (by omega) (by omega) (by omega) (by omega) (by omega) (by omega) (by omega) (by omega), frN 1 16 (by omega) (by omega) (by omega) (by omega) (by omega) (by omega) (by omega) (by omega) (by omega), frN 66 1 (by omega) (by omega) (by omega) (by omega) (by omega) (by omega) (by omega) (by omega) (by omega), frN 1 17 (by omega) (by omega) (by omega) (by omega) (by omega) (by omega) (by omega) (by omega) (by omega)]
      exact ⟨hK1.1, hK1.2.1, hK1.2.2.1, hK1.2.2.2.1, hK1.2.2.2.2.1, hK1.2.2.2.2.2.1, rfl⟩
    · exact q_cn_f (fun a j z => by rw [frNB a j (by omega), frC a j (by omega) (by omega) (by omega)]) hcnP
    · intro j hj
      rw [u_r (by decide), n4 j hj (by omega), Bk]
    · rw [frNB 55 1 (by omega)]; exact C55
    · rw [u_c (by decide), n3 (by omega), Bk]; exact i3
    · refine z_CLc h6 h12 (fun j hj => ?_) (fun j hj => ?_) (i6 w hw).1
      · show (e_up N 64 37 0) 56 (45 * w + j) = M (59 + 2 * g) (45 * w + j)
        rw [frNB 56 _ (by omega), C56 _ (by omega)]
      · show (e_up N 64 37 0) (535 + w) j = M (552 + g) (57 + 56 * w + j)
        rw [u_r (by omega), n5 w j (by omega) hj (by omega), Bk]
    · refine z_LBc h6 h12 (fun j hj => ?_) (i6 w hw).2
      show (e_up N 64 37 0) (535 + w) j = M (552 + g) (57 + 56 * w + j)
      rw [u_r (by omega), n5 w j (by omega) hj (by omega), Bk]
    · rw [frNB 1 15 (by omega)]; exact B1
    · rw [u_c (by decide)]; exact N38
    · obtain ⟨hi', l1, l2, l3, l4, l5, l6⟩ := gi i (by omega)
      have Nb : ∀ j, (e_up N 64 37 0) (59 + 2 * i) j = M (59 + 2 * i) j := fun j => frN _ j (by omega) (by omega) (by omega) (by omega) (by omega) (by omega) (by omega) (by omega) (by omega)
      have Nk : ∀ j, (e_up N 64 37 0) (552 + i) j = M (552 + i) j := fun j => frN _ j (by omega) (by omega) (by omega) (by omega) (by omega) (by omega) (by omega) (by omega) (by omega)
      refine ⟨hi', l1, ?_, ?_, z_CLc h6 h12 (fun j _ => Nb _) (fun j _ => Nk _) l4, z_LBc h6 h12 (fun j _ => Nk _) l5, fun w hw => ⟨z_CLc h6 h12 (fun j _ => Nb _) (fun j _ => Nk _) (l6 w hw).1, z_LBc h6 h12 (fun j _ => Nk _) (l6 w hw).2⟩⟩
      · rw [frN (58 + 2 * i) 1 (by omega) (by omega) (by omega) (by omega) (by omega) (by omega) (by omega) (by omega) (by omega)]; exact l2
      · rw [Nk]; exact l3
